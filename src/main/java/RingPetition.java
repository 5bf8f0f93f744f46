/**
 * A petition that members of a ring sign without being told from one another,
 * each once for a topic.
 */
public final class RingPetition {
    private static final int P = 2027;
    private static final int Q = 1013;
    private static final int G = 4;

    private static final int MOST_MEMBERS = 12;
    private static final int MOST_RINGS = 8;
    private static final int LEAST_IN_RING = 2;
    private static final int MOST_IN_RING = 6;
    private static final int MOST_TOPICS = 6;
    private static final int MOST_STORED = 8;
    private static final int MOST_BUNDLED = 200;
    private static final int BASE_COUNTERS = 64;

    /** A signature's numbers stand in one row, so that draft(), edit() and spoil() can name them by index. */
    private static final int CHALLENGE = 0;
    private static final int TAG = 1;
    private static final int RESPONSES = 2;

    /** A bundle begins with the topic's value and how many signatures follow. */
    private static final int BUNDLE_VALUE = 0;
    private static final int BUNDLE_COUNT = 1;
    private static final int BUNDLE_SIGNATURES = 2;
    private static final int UNREADABLE = -1;

    private final KeyRow everybody = new KeyRow(MOST_MEMBERS);
    private final KeyRow[] rings = new KeyRow[MOST_RINGS];
    private int ringCount = 0;
    private final Topic[] topics = new Topic[MOST_TOPICS];
    private int topicCount = 0;
    private final Signature drafted = new Signature();
    private final int[] bundled = new int[MOST_BUNDLED];
    private int bundledCount = 0;

    /** Where check() reads one signature after the other: what is drafted and stored must not change by it. */
    private final KeyRow readRing = new KeyRow(MOST_IN_RING);
    private final Signature readSignature = new Signature();
    private final int[] readTags = new int[MOST_STORED];

    public RingPetition() {
        for (int i = 0; i < MOST_RINGS; i++) {
            rings[i] = new KeyRow(MOST_IN_RING);
        }
        for (int i = 0; i < MOST_TOPICS; i++) {
            topics[i] = new Topic();
        }
    }

    public int member(int key) throws IllegalArgumentException, IllegalStateException {
        if (!Numbers.isElementButOne(key) || everybody.has(key)) {
            throw new IllegalArgumentException("no key of a new member");
        }
        if (everybody.size >= MOST_MEMBERS) {
            throw new IllegalStateException("there are 12 members");
        }
        everybody.add(key);
        return everybody.size - 1;
    }

    public int key(int secret) throws IllegalArgumentException {
        if (!Numbers.isSecret(secret)) {
            throw new IllegalArgumentException("no secret");
        }
        return Numbers.power(G, secret);
    }

    public int ring(int members) throws IllegalArgumentException, IllegalStateException {
        if (!isChoiceForRing(members)) {
            throw new IllegalArgumentException("not 2 to 6 members");
        }
        if (ringCount >= MOST_RINGS) {
            throw new IllegalStateException("there are 8 rings");
        }
        fillRing(rings[ringCount], members);
        ringCount++;
        return ringCount - 1;
    }

    public int topic(int value) throws IllegalStateException {
        if (topicCount >= MOST_TOPICS) {
            throw new IllegalStateException("there are 6 topics");
        }
        topics[topicCount].open(value);
        topicCount++;
        return topicCount - 1;
    }

    public int base(int topic) throws IllegalArgumentException {
        return knownTopic(topic).topicBase;
    }

    public int sign(int ring, int topic, int place, int secret, int motion) throws IllegalArgumentException {
        KeyRow signers = knownRing(ring);
        Topic about = knownTopic(topic);
        if (place < 0 || place >= signers.size) {
            throw new IllegalArgumentException("no place in the ring");
        }
        if (!Numbers.isSecret(secret) || Numbers.power(G, secret) != signers.keys[place]) {
            throw new IllegalArgumentException("not the secret of the key there");
        }
        new Claim(signers, about.value, about.topicBase, motion).prove(place, secret, drafted);
        return drafted.numbers[TAG];
    }

    public int draft(int i) throws IndexOutOfBoundsException {
        if (!drafted.hasNumber(i)) {
            throw new IndexOutOfBoundsException("the draft has no such number");
        }
        return drafted.numbers[i];
    }

    public void edit(int i, int v) throws IndexOutOfBoundsException {
        if (!drafted.hasNumber(i)) {
            throw new IndexOutOfBoundsException("the draft has no such number");
        }
        drafted.numbers[i] = v;
    }

    public int submit(int ring, int topic, int motion)
            throws IllegalArgumentException, IllegalStateException, UnsupportedOperationException {
        KeyRow signers = knownRing(ring);
        Topic about = knownTopic(topic);
        if (about.closed) {
            throw new IllegalStateException("the topic is closed");
        }
        if (!new Claim(signers, about.value, about.topicBase, motion).isProvedBy(drafted)) {
            throw new IllegalArgumentException("the draft is no good signature");
        }
        if (about.hasAmongFirst(about.storedCount, drafted.numbers[TAG]) || about.storedCount >= MOST_STORED) {
            throw new UnsupportedOperationException("the tag is stored, or there are 8 signatures");
        }
        about.store(drafted, ring, motion);
        return about.storedCount;
    }

    public int count(int topic) throws IllegalArgumentException {
        return knownTopic(topic).storedCount;
    }

    public boolean seen(int topic) throws IllegalArgumentException {
        Topic about = knownTopic(topic);
        return about.hasAmongFirst(about.storedCount, drafted.numbers[TAG]);
    }

    public int recount(int topic) throws IllegalArgumentException {
        Topic about = knownTopic(topic);
        for (int k = 0; k < about.storedCount; k++) {
            if (!isStoredWell(about, k)) {
                return -1 - k;
            }
        }
        return about.storedCount;
    }

    public void spoil(int topic, int k, int i, int v) throws IllegalArgumentException, IndexOutOfBoundsException {
        Topic about = knownTopic(topic);
        if (k < 0 || k >= about.storedCount) {
            throw new IndexOutOfBoundsException("no such signature");
        }
        if (!about.stored[k].hasNumber(i)) {
            throw new IndexOutOfBoundsException("the signature has no such number");
        }
        about.stored[k].numbers[i] = v;
    }

    public int close(int topic) throws IllegalArgumentException, IllegalStateException {
        Topic about = knownTopic(topic);
        if (about.closed) {
            throw new IllegalStateException("the topic is closed");
        }
        about.closed = true;
        return about.storedCount;
    }

    public int export(int topic) throws IllegalArgumentException {
        Topic about = knownTopic(topic);
        bundledCount = 0;
        addToBundle(about.value);
        addToBundle(about.storedCount);
        for (int k = 0; k < about.storedCount; k++) {
            addSignatureToBundle(about, k);
        }
        return bundledCount;
    }

    public int bundle(int i) throws IndexOutOfBoundsException {
        if (i < 0 || i >= bundledCount) {
            throw new IndexOutOfBoundsException("the bundle has no such int");
        }
        return bundled[i];
    }

    public void poke(int i, int v) throws IndexOutOfBoundsException {
        if (i < 0 || i > bundledCount || i >= MOST_BUNDLED) {
            throw new IndexOutOfBoundsException("the bundle has no room there");
        }
        if (i == bundledCount) {
            addToBundle(v);
        } else {
            bundled[i] = v;
        }
    }

    public void cut(int n) throws IllegalArgumentException {
        if (n < 0 || n > bundledCount) {
            throw new IllegalArgumentException("the bundle has fewer ints");
        }
        bundledCount = n;
    }

    public int check() throws IllegalArgumentException {
        if (bundledCount < BUNDLE_SIGNATURES) {
            throw new IllegalArgumentException("the bundle has no head");
        }
        int signatures = bundled[BUNDLE_COUNT];
        if (signatures < 0 || signatures > MOST_STORED) {
            throw new IllegalArgumentException("not 0 to 8 signatures");
        }
        if (endOfGoodSignatures(signatures) != bundledCount) {
            throw new IllegalArgumentException("the bundle is not as a topic's is");
        }
        return signatures;
    }

    private KeyRow knownRing(int ring) {
        if (ring < 0 || ring >= ringCount) {
            throw new IllegalArgumentException("no such ring");
        }
        return rings[ring];
    }

    private Topic knownTopic(int topic) {
        if (topic < 0 || topic >= topicCount) {
            throw new IllegalArgumentException("no such topic");
        }
        return topics[topic];
    }

    private boolean isChoiceForRing(int choice) {
        int chosen = Integer.bitCount(choice);
        return chosen >= LEAST_IN_RING && chosen <= MOST_IN_RING && choice >>> everybody.size == 0;
    }

    private void fillRing(KeyRow ring, int choice) {
        for (int i = 0; i < everybody.size; i++) {
            if ((choice >>> i & 1) == 1) {
                ring.add(everybody.keys[i]);
            }
        }
    }

    private boolean isStoredWell(Topic about, int k) {
        Signature signature = about.stored[k];
        Claim claim = new Claim(rings[signature.ringNumber], about.value, about.topicBase, signature.motion);
        return claim.isProvedBy(signature) && !about.hasAmongFirst(k, signature.numbers[TAG]);
    }

    private void addToBundle(int v) {
        if (bundledCount < MOST_BUNDLED) {
            bundled[bundledCount] = v;
            bundledCount++;
        }
    }

    private void addSignatureToBundle(Topic about, int k) {
        Signature signature = about.stored[k];
        KeyRow signers = rings[signature.ringNumber];
        addToBundle(signers.size);
        for (int i = 0; i < signers.size; i++) {
            addToBundle(signers.keys[i]);
        }
        addToBundle(signature.motion);
        for (int i = 0; i < signature.size; i++) {
            addToBundle(signature.numbers[i]);
        }
    }

    /** The index behind the bundle's signatures, or UNREADABLE if they are not all good and of different tags. */
    private int endOfGoodSignatures(int signatures) {
        int base = Numbers.topicBase(bundled[BUNDLE_VALUE]);
        int at = BUNDLE_SIGNATURES;
        for (int k = 0; k < signatures; k++) {
            at = endOfGoodSignature(at, base);
            int tag = readSignature.numbers[TAG];
            if (at == UNREADABLE || Numbers.isAmongFirst(k, readTags, tag)) {
                return UNREADABLE;
            }
            readTags[k] = tag;
        }
        return at;
    }

    private int endOfGoodSignature(int start, int base) {
        if (start >= bundledCount) {
            return UNREADABLE;
        }
        int n = bundled[start];
        if (n < LEAST_IN_RING || n > MOST_IN_RING) {
            return UNREADABLE;
        }
        int motionAt = start + 1 + n;
        int numbersAt = motionAt + 1;
        int end = numbersAt + RESPONSES + n;
        if (end > bundledCount || !readKeys(start + 1, motionAt)) {
            return UNREADABLE;
        }
        readSignature.resize(n);
        for (int i = 0; i < readSignature.size; i++) {
            readSignature.numbers[i] = bundled[numbersAt + i];
        }
        Claim claim = new Claim(readRing, bundled[BUNDLE_VALUE], base, bundled[motionAt]);
        return claim.isProvedBy(readSignature) ? end : UNREADABLE;
    }

    private boolean readKeys(int start, int end) {
        readRing.size = 0;
        for (int i = start; i < end; i++) {
            if (!Numbers.isElementButOne(bundled[i]) || readRing.has(bundled[i])) {
                return false;
            }
            readRing.add(bundled[i]);
        }
        return true;
    }

    /** The arithmetic: powers modulo P, the group, and the mix. */
    private static final class Numbers {
        private static final int MIX_START = 17;
        private static final int MIX_FACTOR = 0x9E3779B1;
        private static final int EXPONENT_BITS = 10;

        /** Ten bits are all there are, as no exponent is above Q; a base below P keeps each product an int. */
        static int power(int base, int exponent) {
            int product = 1;
            int square = base;
            for (int bit = 0; bit < EXPONENT_BITS; bit++) {
                if ((exponent >>> bit & 1) == 1) {
                    product = product * square % P;
                }
                square = square * square % P;
            }
            return product;
        }

        static boolean isElementButOne(int x) {
            return x > 1 && x < P && power(x, Q) == 1;
        }

        static boolean isExponent(int x) {
            return x >= 0 && x < Q;
        }

        static boolean isSecret(int x) {
            return x > 0 && x < Q;
        }

        static int mixed(int h, int x) {
            int product = (h ^ x) * MIX_FACTOR;
            return product ^ (product >>> 15);
        }

        static int rest(int mix) {
            return (mix >>> 1) % Q;
        }

        static int topicBase(int value) {
            int valueMix = mixed(MIX_START, value);
            for (int k = 0; k < BASE_COUNTERS; k++) {
                int m = (mixed(valueMix, k) >>> 1) % P;
                if (isElementButOne(m)) {
                    return m;
                }
            }
            return G;
        }

        static boolean isAmongFirst(int n, int[] row, int x) {
            for (int i = 0; i < n && i < row.length; i++) {
                if (row[i] == x) {
                    return true;
                }
            }
            return false;
        }
    }

    /** A row of different keys in their order. */
    private static final class KeyRow {
        private final int[] keys;
        private int size = 0;

        KeyRow(int most) {
            keys = new int[most];
        }

        boolean has(int key) {
            return Numbers.isAmongFirst(size, keys, key);
        }

        void add(int key) {
            if (size < keys.length) {
                keys[size] = key;
                size++;
            }
        }
    }

    /** A signature's numbers; a stored one has its ring and motion too. */
    private static final class Signature {
        private final int[] numbers = new int[RESPONSES + MOST_IN_RING];
        private int size = RESPONSES;
        private int ringNumber = 0;
        private int motion = 0;

        void resize(int responses) {
            size = RESPONSES + responses;
        }

        boolean hasNumber(int i) {
            return i >= 0 && i < size;
        }

        void copyNumbers(Signature other) {
            size = other.size;
            System.arraycopy(other.numbers, 0, numbers, 0, other.size);
        }
    }

    private static final class Topic {
        private int value = 0;
        private int topicBase = G;
        private boolean closed = false;
        private final Signature[] stored = new Signature[MOST_STORED];
        private int storedCount = 0;

        Topic() {
            for (int k = 0; k < MOST_STORED; k++) {
                stored[k] = new Signature();
            }
        }

        void open(int newValue) {
            value = newValue;
            topicBase = Numbers.topicBase(newValue);
        }

        boolean hasAmongFirst(int n, int tag) {
            for (int k = 0; k < n && k < storedCount; k++) {
                if (stored[k].numbers[TAG] == tag) {
                    return true;
                }
            }
            return false;
        }

        void store(Signature signature, int ringNumber, int motion) {
            if (storedCount < MOST_STORED) {
                Signature kept = stored[storedCount];
                kept.copyNumbers(signature);
                kept.ringNumber = ringNumber;
                kept.motion = motion;
                storedCount++;
            }
        }
    }

    /** What a signature is for: the ring that signs, the topic, and the motion. */
    private static final class Claim {
        private final KeyRow signers;
        private final int value;
        private final int topicBase;
        private final int motion;

        Claim(KeyRow signers, int value, int topicBase, int motion) {
            this.signers = signers;
            this.value = value;
            this.topicBase = topicBase;
            this.motion = motion;
        }

        boolean isProvedBy(Signature signature) {
            if (signature.size != RESPONSES + signers.size || !hasFitNumbers(signature)) {
                return false;
            }
            int tag = signature.numbers[TAG];
            int stem = stem(tag);
            int challenge = signature.numbers[CHALLENGE];
            for (int i = 0; i < signers.size; i++) {
                challenge = step(stem, tag, challenge, signers.keys[i], signature.numbers[RESPONSES + i]);
            }
            return challenge == signature.numbers[CHALLENGE];
        }

        /** The secret is that of the key at the place. */
        void prove(int place, int secret, Signature signature) {
            int tag = Numbers.power(topicBase, secret);
            int stem = stem(tag);
            int ownNonce = nonce(secret, place);
            signature.resize(signers.size);
            signature.numbers[TAG] = tag;
            int challenge = challengeBehind(stem, Numbers.power(G, ownNonce), Numbers.power(topicBase, ownNonce));
            int at = placeBehind(place);
            for (int steps = 1; steps < signers.size; steps++) {
                if (at == 0) {
                    signature.numbers[CHALLENGE] = challenge;
                }
                int response = nonce(secret, at);
                signature.numbers[RESPONSES + at] = response;
                challenge = step(stem, tag, challenge, signers.keys[at], response);
                at = placeBehind(at);
            }
            if (place == 0) {
                signature.numbers[CHALLENGE] = challenge;
            }
            signature.numbers[RESPONSES + place] = Math.floorMod(ownNonce - secret * challenge, Q);
        }

        private boolean hasFitNumbers(Signature signature) {
            for (int i = RESPONSES; i < signature.size; i++) {
                if (!Numbers.isExponent(signature.numbers[i])) {
                    return false;
                }
            }
            return Numbers.isExponent(signature.numbers[CHALLENGE])
                    && Numbers.isElementButOne(signature.numbers[TAG]);
        }

        /** The mix of a step's row before its last two numbers, which alone differ from step to step. */
        private int stem(int tag) {
            int h = Numbers.mixed(Numbers.MIX_START, signers.size);
            for (int i = 0; i < signers.size; i++) {
                h = Numbers.mixed(h, signers.keys[i]);
            }
            h = Numbers.mixed(h, value);
            h = Numbers.mixed(h, motion);
            return Numbers.mixed(h, tag);
        }

        private int step(int stem, int tag, int challenge, int key, int response) {
            int keyProduct = Numbers.power(G, response) * Numbers.power(key, challenge) % P;
            int tagProduct = Numbers.power(topicBase, response) * Numbers.power(tag, challenge) % P;
            return challengeBehind(stem, keyProduct, tagProduct);
        }

        private int challengeBehind(int stem, int keyProduct, int tagProduct) {
            return Numbers.rest(Numbers.mixed(Numbers.mixed(stem, keyProduct), tagProduct));
        }

        private int nonce(int secret, int place) {
            int h = Numbers.mixed(Numbers.MIX_START, secret);
            h = Numbers.mixed(h, value);
            h = Numbers.mixed(h, motion);
            return Numbers.rest(Numbers.mixed(h, place));
        }

        private int placeBehind(int place) {
            return place + 1 < signers.size ? place + 1 : 0;
        }
    }
}
