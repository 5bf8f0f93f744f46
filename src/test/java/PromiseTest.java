import java.util.ArrayList;
import java.util.List;

/** Each promise of the document by itself: ordinary inputs, and wrong ones. */
public final class PromiseTest {
    private static final int MIN = Integer.MIN_VALUE;
    private static final int MAX = Integer.MAX_VALUE;
    /** Numbers that name nothing when there are so many rings, topics or places. */
    private static final int[] FAR = {-1, MIN, MAX, 1 << 16};

    private static final Due due = new Due();

    public static void main(String[] args) {
        chainsThemselves();
        newObject();
        member();
        key();
        ring();
        topic();
        base();
        sign();
        draft();
        edit();
        submit();
        count();
        seen();
        recount();
        spoil();
        close();
        export();
        bundle();
        poke();
        cut();
        check();
        checkOfForeignRings();
        due.finish("PromiseTest");
    }

    /** Members with the secrets 1 .. n. */
    private static RingPetition withMembers(int n) {
        RingPetition x = new RingPetition();
        for (int secret = 1; secret <= n; secret++) {
            x.member(x.key(secret));
        }
        return x;
    }

    /** Members with secrets 1 and 2, the ring of both, and topic 77. */
    private static RingPetition pair() {
        RingPetition x = withMembers(2);
        x.ring(3);
        x.topic(77);
        return x;
    }

    /** Twelve members in the rings 0 (secrets 1 .. 6) and 1 (7 .. 12), and topic 5. */
    private static RingPetition dozen() {
        RingPetition x = withMembers(12);
        x.ring(63);
        x.ring(63 << 6);
        x.topic(5);
        return x;
    }

    /** Signs and submits for topic 0 of a dozen's object. */
    private static int signAs(RingPetition x, int secret, int motion) {
        int ring = (secret - 1) / 6;
        x.sign(ring, 0, (secret - 1) % 6, secret, motion);
        return x.submit(ring, 0, motion);
    }

    private static void draftIs(String what, RingPetition x, int... numbers) {
        for (int i = 0; i < numbers.length; i++) {
            due.is(what + ": draft(" + i + ")", x.draft(i), numbers[i]);
        }
        due.outOfBounds(what + ": draft(" + numbers.length + ")", () -> x.draft(numbers.length));
    }

    private static void bundleIs(String what, RingPetition x, int... ints) {
        for (int i = 0; i < ints.length; i++) {
            due.is(what + ": bundle(" + i + ")", x.bundle(i), ints[i]);
        }
        due.outOfBounds(what + ": bundle(" + ints.length + ")", () -> x.bundle(ints.length));
    }

    private static void setBundle(RingPetition x, List<Integer> ints) {
        x.cut(0);
        for (int i = 0; i < ints.size(); i++) {
            x.poke(i, ints.get(i));
        }
    }

    private static List<Integer> head(int value, int signatures) {
        return new ArrayList<>(List.of(value, signatures));
    }

    /** The bundle of one signature, given to an object that knows nothing else. */
    private static RingPetition stranger(int value, int[] keys, int motion, int[] numbers) {
        RingPetition x = new RingPetition();
        List<Integer> ints = head(value, 1);
        ints.addAll(Reference.bundled(keys, motion, numbers));
        setBundle(x, ints);
        return x;
    }

    private static void refused(String what, RingPetition x) {
        due.illegalArgument("check() of " + what, x::check);
    }

    /** The tests' own arithmetic against numbers reckoned elsewhere. */
    private static void chainsThemselves() {
        int[] signed = Chains.sign(new int[] {4, 16}, 77, 5, 0, 1);
        int[] known = {111, 2020, 805, 137};
        for (int i = 0; i < known.length; i++) {
            due.is("the tests' own signature, number " + i, signed[i], known[i]);
        }
    }

    private static void newObject() {
        RingPetition x = new RingPetition();
        draftIs("a new object", x, 0, 0);
        due.outOfBounds("bundle(0) of a new object", () -> x.bundle(0));
        due.illegalArgument("check() of a new object", x::check);
        due.illegalArgument("ring(3) of a new object", () -> x.ring(3));
        due.illegalArgument("base(0) of a new object", () -> x.base(0));
        due.illegalArgument("count(0) of a new object", () -> x.count(0));
        due.illegalArgument("export(0) of a new object", () -> x.export(0));
        due.illegalArgument("cut(1) of a new object", () -> x.cut(1));
        due.is("the first member", x.member(4), 0);
        due.is("the first topic", x.topic(9), 0);
        due.illegalArgument("sign without a ring", () -> x.sign(0, 0, 0, 1, 0));
        due.illegalArgument("submit without a ring", () -> x.submit(0, 0, 0));
        due.is("no tag 0 is stored at first", x.seen(0), false);
    }

    private static void member() {
        RingPetition x = new RingPetition();
        for (int key : new int[] {0, 1, 2, 2026, 2027, 2028, 2031, -1, -4, 4 - 2027, MIN, MAX}) {
            due.illegalArgument("member(" + key + ")", () -> x.member(key));
        }
        int[] keys = {2025, 3, 4, 16, 64, 256, 1024, 42, 168, 672, 661, 617};
        for (int i = 0; i < keys.length; i++) {
            due.is("member " + i, x.member(keys[i]), i);
            int again = keys[i];
            due.illegalArgument("member(" + again + ") again", () -> x.member(again));
        }
        due.illegalState("a thirteenth member", () -> x.member(441));
        due.illegalArgument("a thirteenth member with the first one's key", () -> x.member(2025));
        due.illegalArgument("a thirteenth member with no key", () -> x.member(5));
        due.illegalArgument("a thirteenth member with key 1", () -> x.member(1));
    }

    private static void key() {
        RingPetition x = new RingPetition();
        int[][] pairs = {{1, 4}, {2, 16}, {3, 64}, {500, 555}, {506, 1013}, {507, 2025}, {1011, 1647}, {1012, 507}};
        for (int[] pair : pairs) {
            due.is("key(" + pair[0] + ")", x.key(pair[0]), pair[1]);
        }
        for (int secret : new int[] {0, -1, 1013, 1014, 1014 - 2 * 1013, MIN, MAX}) {
            due.illegalArgument("key(" + secret + ")", () -> x.key(secret));
        }
    }

    private static void ring() {
        RingPetition x = withMembers(3);
        for (int choice : new int[] {0, 1, 2, 4, 8, 9, 15, 1 << 31 | 1, 1 << 31 | 3, 1 << 12 | 3, -1, MIN, MAX}) {
            due.illegalArgument("ring(" + choice + ") of three members", () -> x.ring(choice));
        }
        due.is("ring(5)", x.ring(5), 0);
        due.is("ring(7)", x.ring(7), 1);
        due.is("the same ring again", x.ring(5), 2);
        x.topic(0);
        due.is("place 1 of ring(5) is member 2", x.sign(0, 0, 1, 3, 0), Chains.power(124, 3));
        due.illegalArgument("ring(5) has two places", () -> x.sign(0, 0, 2, 3, 0));

        RingPetition y = withMembers(12);
        due.illegalArgument("ring of seven", () -> y.ring(127));
        due.illegalArgument("ring of twelve", () -> y.ring(4095));
        due.illegalArgument("ring with member 12", () -> y.ring(4097));
        due.is("ring of six", y.ring(63), 0);
        due.is("ring with the last member", y.ring(1 << 11 | 1), 1);
        for (int i = 2; i < 8; i++) {
            due.is("ring " + i, y.ring(3 << i), i);
        }
        due.illegalState("a ninth ring", () -> y.ring(3));
        due.illegalArgument("a ninth ring of one", () -> y.ring(1));
        due.illegalArgument("a ninth ring of seven", () -> y.ring(127));
        due.illegalArgument("a ninth ring with member 12", () -> y.ring(4097));
    }

    private static void topic() {
        RingPetition x = new RingPetition();
        int[] values = {0, -1, MAX, MIN, 77, 77};
        for (int i = 0; i < values.length; i++) {
            due.is("topic " + i, x.topic(values[i]), i);
        }
        due.illegalState("a seventh topic", () -> x.topic(1));
        due.is("a new topic is open", x.close(5), 0);
        due.illegalState("a seventh topic, one being closed", () -> x.topic(1));
    }

    private static void base() {
        RingPetition x = new RingPetition();
        // The counter that finds the base is 1, 0, 17, 31 (the farthest of all ints), 1 and 0.
        int[][] pairs = {{0, 124}, {1, 967}, {31795, 425}, {1219336307, 1244}, {MIN, 490}, {-1, 1411}};
        for (int i = 0; i < pairs.length; i++) {
            x.topic(pairs[i][0]);
            due.is("base of the value " + pairs[i][0], x.base(i), pairs[i][1]);
        }
        x.close(0);
        due.is("base of a closed topic", x.base(0), 124);
        due.illegalArgument("base(6)", () -> x.base(6));
        for (int topic : FAR) {
            due.illegalArgument("base(" + topic + ")", () -> x.base(topic));
        }
    }

    private static void sign() {
        RingPetition x = pair();
        due.is("sign at place 0", x.sign(0, 0, 0, 1, 5), 2020);
        draftIs("signed at place 0", x, 111, 2020, 805, 137);
        due.is("sign at place 1", x.sign(0, 0, 1, 2, 5), 49);
        draftIs("signed at place 1", x, 663, 49, 438, 834);
        due.illegalArgument("sign at place 2", () -> x.sign(0, 0, 2, 2, 5));
        due.illegalArgument("sign with the other's secret", () -> x.sign(0, 0, 0, 2, 5));
        due.illegalArgument("sign with a secret that is 1013 more", () -> x.sign(0, 0, 1, 2 + 1013, 5));
        due.illegalArgument("sign with a secret that is 1013 less", () -> x.sign(0, 0, 1, 2 - 1013, 5));
        due.illegalArgument("sign with no secret", () -> x.sign(0, 0, 0, 0, 5));
        due.illegalArgument("sign in ring 1", () -> x.sign(1, 0, 0, 1, 5));
        due.illegalArgument("sign for topic 1", () -> x.sign(0, 1, 0, 1, 5));
        for (int far : FAR) {
            due.illegalArgument("sign in ring " + far, () -> x.sign(far, 0, 0, 1, 5));
            due.illegalArgument("sign for topic " + far, () -> x.sign(0, far, 0, 1, 5));
            due.illegalArgument("sign at place " + far, () -> x.sign(0, 0, far, 1, 5));
            due.illegalArgument("sign with secret " + far, () -> x.sign(0, 0, 0, far, 5));
        }
        draftIs("after what was refused", x, 663, 49, 438, 834);
        x.submit(0, 0, 5);
        x.close(0);
        due.is("sign for a closed topic, once more", x.sign(0, 0, 1, 2, 5), 49);
        signInRingOfSix();
    }

    private static void signInRingOfSix() {
        RingPetition x = new RingPetition();
        int[] secrets = {10, 20, 30, 40, 50, 1012};
        for (int secret : secrets) {
            x.member(x.key(secret));
        }
        x.ring(63);
        x.topic(MIN);
        int[][] signed = {
            {919, 656, 400, 1007, 93, 862, 353, 112}, {819, 612, 972, 486, 12, 715, 489, 596},
            {371, 126, 943, 314, 753, 884, 68, 467}, {958, 1576, 536, 1004, 731, 930, 353, 975},
            {854, 86, 663, 86, 308, 8, 57, 657}, {439, 484, 206, 622, 158, 424, 679, 471}};
        for (int place = 0; place < 6; place++) {
            due.is("sign at place " + place + " of six", x.sign(0, 0, place, secrets[place], MIN), signed[place][1]);
            draftIs("signed at place " + place + " of six", x, signed[place]);
            due.is("submitted from place " + place + " of six", x.submit(0, 0, MIN), place + 1);
        }
        due.illegalArgument("sign at place 6 of six", () -> x.sign(0, 0, 6, 1012, MIN));
    }

    private static void draft() {
        RingPetition x = pair();
        draftIs("no draft yet", x, 0, 0);
        x.sign(0, 0, 0, 1, 5);
        for (int i : FAR) {
            due.outOfBounds("draft(" + i + ")", () -> x.draft(i));
        }
        x.submit(0, 0, 5);
        draftIs("after submit", x, 111, 2020, 805, 137);
        RingPetition y = withMembers(6);
        y.ring(63);
        y.ring(3);
        y.topic(77);
        y.sign(0, 0, 5, 6, 0);
        draftIs("of six", y, Chains.sign(Chains.keys(1, 2, 3, 4, 5, 6), 77, 0, 5, 6));
        y.sign(1, 0, 0, 1, 5);
        draftIs("of two behind one of six", y, 111, 2020, 805, 137);
    }

    private static void edit() {
        RingPetition x = pair();
        x.edit(0, MIN);
        x.edit(1, MAX);
        draftIs("the first draft, edited", x, MIN, MAX);
        due.outOfBounds("edit(2) of the first draft", () -> x.edit(2, 0));
        x.sign(0, 0, 0, 1, 5);
        for (int i = 0; i < 4; i++) {
            x.edit(i, -i);
        }
        draftIs("edited", x, 0, -1, -2, -3);
        due.outOfBounds("edit(4)", () -> x.edit(4, 0));
        for (int i : FAR) {
            due.outOfBounds("edit(" + i + ")", () -> x.edit(i, 0));
        }
        x.sign(0, 0, 0, 1, 5);
        draftIs("signed once more", x, 111, 2020, 805, 137);
    }

    private static void submit() {
        RingPetition x = dozen();
        x.topic(6);
        due.illegalArgument("submit of no draft", () -> x.submit(0, 0, 0));
        x.sign(0, 0, 2, 3, 9);
        due.illegalArgument("submit for another motion", () -> x.submit(0, 0, 8));
        due.illegalArgument("submit for another topic", () -> x.submit(0, 1, 9));
        due.illegalArgument("submit for another ring of six", () -> x.submit(1, 0, 9));
        x.ring(7);
        due.illegalArgument("submit for a ring of three", () -> x.submit(2, 0, 9));
        due.illegalArgument("submit for ring 3", () -> x.submit(3, 0, 9));
        due.illegalArgument("submit for topic 2", () -> x.submit(0, 2, 9));
        for (int far : FAR) {
            due.illegalArgument("submit for ring " + far, () -> x.submit(far, 0, 9));
            due.illegalArgument("submit for topic " + far, () -> x.submit(0, far, 9));
        }
        due.is("nothing is stored by what was refused", x.count(0) + x.count(1), 0);
        due.is("submit", x.submit(0, 0, 9), 1);
        due.unsupported("submit once more", () -> x.submit(0, 0, 9));
        x.sign(0, 0, 2, 3, 10);
        due.unsupported("submit for another motion by the same member", () -> x.submit(0, 0, 10));
        x.sign(2, 0, 2, 3, 10);
        due.unsupported("submit for another ring by the same member", () -> x.submit(2, 0, 10));
        x.edit(2, x.draft(2) ^ 1);
        due.illegalArgument("a spoiled draft with a stored tag", () -> x.submit(2, 0, 10));
        x.sign(2, 1, 2, 3, 10);
        due.is("submit for another topic by the same member", x.submit(2, 1, 10), 1);
        for (int secret = 4; secret <= 10; secret++) {
            due.is("submit by the secret " + secret, signAs(x, secret, MIN + secret), secret - 2);
        }
        due.unsupported("a ninth", () -> signAs(x, 11, 0));
        due.unsupported("a ninth with a stored tag", () -> signAs(x, 10, 0));
        due.illegalArgument("a ninth that is not good", () -> x.submit(1, 0, 1));
        due.is("stored", x.count(0), 8);
        submitWhenClosed(x);
    }

    private static void submitWhenClosed(RingPetition x) {
        x.sign(1, 1, 5, 12, 3);
        x.close(1);
        due.illegalState("submit for a closed topic", () -> x.submit(1, 1, 3));
        due.illegalState("submit of no good one for a closed topic", () -> x.submit(1, 1, 4));
        due.illegalState("submit of another size for a closed topic", () -> x.submit(2, 1, 3));
        x.sign(0, 1, 2, 3, 3);
        due.illegalState("submit of a stored tag for a closed topic", () -> x.submit(0, 1, 3));
        due.illegalArgument("submit for no ring and a closed topic", () -> x.submit(3, 1, 3));
        x.close(0);
        due.illegalState("submit for a closed topic that has 8", () -> x.submit(0, 0, 3));
        due.is("stored for the closed topic", x.count(1), 1);
    }

    private static void count() {
        RingPetition x = dozen();
        x.topic(6);
        due.is("count at first", x.count(0), 0);
        for (int secret = 1; secret <= 8; secret++) {
            signAs(x, secret, 0);
            due.is("count after " + secret, x.count(0), secret);
        }
        due.is("count of the other topic", x.count(1), 0);
        x.close(0);
        due.is("count when closed", x.count(0), 8);
        due.illegalArgument("count(2)", () -> x.count(2));
        for (int topic : FAR) {
            due.illegalArgument("count(" + topic + ")", () -> x.count(topic));
        }
    }

    private static void seen() {
        RingPetition x = dozen();
        x.topic(6);
        due.is("seen at first", x.seen(0), false);
        for (int secret = 1; secret <= 8; secret++) {
            x.sign((secret - 1) / 6, 0, (secret - 1) % 6, secret, 0);
            due.is("seen before submit " + secret, x.seen(0), false);
            x.submit((secret - 1) / 6, 0, 0);
            due.is("seen behind submit " + secret, x.seen(0), true);
        }
        due.is("seen for another topic", x.seen(1), false);
        int tag = x.draft(1);
        x.edit(1, tag + 2027);
        due.is("seen with a tag of the same rest", x.seen(0), false);
        x.edit(1, tag);
        x.edit(0, -1);
        due.is("seen with a draft that is not good", x.seen(0), true);
        x.spoil(0, 7, 1, -5);
        due.is("seen when the stored tag is spoiled", x.seen(0), false);
        x.edit(1, -5);
        due.is("seen with the spoiled tag", x.seen(0), true);
        x.close(0);
        due.is("seen when closed", x.seen(0), true);
        due.illegalArgument("seen(2)", () -> x.seen(2));
        for (int topic : FAR) {
            due.illegalArgument("seen(" + topic + ")", () -> x.seen(topic));
        }
    }

    private static void recount() {
        RingPetition x = dozen();
        due.is("recount of none", x.recount(0), 0);
        for (int secret = 1; secret <= 8; secret++) {
            signAs(x, secret, secret);
            due.is("recount after " + secret, x.recount(0), secret);
        }
        RingPetition copy = new RingPetition();
        for (int k = 7; k >= 0; k--) {
            int[] keys = k < 6 ? Chains.keys(1, 2, 3, 4, 5, 6) : Chains.keys(7, 8, 9, 10, 11, 12);
            int[] good = Chains.sign(keys, 5, k + 1, k % 6, k + 1);
            for (int i = 0; i < 8; i++) {
                x.spoil(0, k, i, good[i] + (i == 1 ? 2027 : 1013));
                due.is("recount with number " + i + " of " + k + " too great", x.recount(0), -1 - k);
                x.spoil(0, k, i, good[i] - 1);
                due.is("recount with number " + i + " of " + k + " one less", x.recount(0), -1 - k);
                x.spoil(0, k, i, good[i]);
            }
            due.is("recount when number " + k + " is mended", x.recount(0), 8);
        }
        x.spoil(0, 6, 0, -1);
        x.spoil(0, 2, 7, 1013);
        due.is("recount tells the first", x.recount(0), -3);
        x.close(0);
        due.is("recount when closed", x.recount(0), -3);
        due.illegalArgument("recount(1)", () -> x.recount(1));
        due.illegalArgument("recount(0) of a new object", () -> copy.recount(0));
        for (int topic : FAR) {
            due.illegalArgument("recount(" + topic + ")", () -> x.recount(topic));
        }
    }

    private static void spoil() {
        RingPetition x = dozen();
        x.ring(3);
        signAs(x, 1, 0);
        x.sign(2, 0, 1, 2, 1);
        x.submit(2, 0, 1);
        int[] numbers = Chains.sign(Chains.keys(1, 2), 5, 1, 1, 2);
        for (int i = 0; i < 4; i++) {
            x.spoil(0, 1, i, MIN + i);
        }
        draftIs("spoil leaves the draft", x, numbers);
        x.export(0);
        for (int i = 0; i < 4; i++) {
            due.is("spoiled number " + i, x.bundle(2 + 16 + 4 + i), MIN + i);
        }
        due.is("recount", x.recount(0), -2);
        x.edit(2, 0);
        due.is("spoiled number 2 after an edit", x.bundle(2 + 16 + 4 + 2), MIN + 2);
        due.outOfBounds("spoil number 4 of two members", () -> x.spoil(0, 1, 4, 0));
        due.outOfBounds("spoil number 8 of six members", () -> x.spoil(0, 0, 8, 0));
        due.outOfBounds("spoil signature 2", () -> x.spoil(0, 2, 0, 0));
        due.illegalArgument("spoil topic 1", () -> x.spoil(1, 0, 0, 0));
        due.illegalArgument("spoil topic 1, signature 9, number 9", () -> x.spoil(1, 9, 9, 0));
        for (int far : FAR) {
            due.illegalArgument("spoil topic " + far, () -> x.spoil(far, 0, 0, 0));
            due.outOfBounds("spoil signature " + far, () -> x.spoil(0, far, 0, 0));
            due.outOfBounds("spoil number " + far, () -> x.spoil(0, 0, far, 0));
        }
        x.close(0);
        for (int i = 0; i < 4; i++) {
            x.spoil(0, 1, i, numbers[i]);
        }
        due.is("recount when mended, though closed", x.recount(0), 2);
    }

    private static void close() {
        RingPetition x = dozen();
        x.topic(6);
        signAs(x, 1, 0);
        signAs(x, 2, 0);
        due.is("close", x.close(0), 2);
        due.illegalState("close again", () -> x.close(0));
        due.is("close of another one", x.close(1), 0);
        due.illegalArgument("close(2)", () -> x.close(2));
        for (int topic : FAR) {
            due.illegalArgument("close(" + topic + ")", () -> x.close(topic));
        }
        due.is("a topic behind a closed one is open", x.topic(5), 2);
        x.sign(0, 2, 0, 1, 0);
        due.is("and takes a signature", x.submit(0, 2, 0), 1);
    }

    private static void export() {
        RingPetition x = pair();
        x.topic(MIN);
        x.sign(0, 0, 0, 1, 5);
        x.submit(0, 0, 5);
        x.sign(0, 0, 1, 2, 5);
        x.submit(0, 0, 5);
        due.is("export", x.export(0), 18);
        bundleIs("export", x, 77, 2, 2, 4, 16, 5, 111, 2020, 805, 137, 2, 4, 16, 5, 663, 49, 438, 834);
        due.is("export of none stored", x.export(1), 2);
        bundleIs("export of none stored", x, MIN, 0);
        due.illegalArgument("export(2)", () -> x.export(2));
        for (int topic : FAR) {
            due.illegalArgument("export(" + topic + ")", () -> x.export(topic));
        }
        bundleIs("after what was refused", x, MIN, 0);
        x.sign(0, 1, 1, 2, -7);
        x.submit(0, 1, -7);
        bundleIs("a bundle stays when more is stored", x, MIN, 0);
        x.close(1);
        due.is("export of a closed one", x.export(1), 10);
        int[] numbers = Chains.sign(Chains.keys(1, 2), MIN, -7, 1, 2);
        bundleIs("export of a closed one", x, MIN, 1, 2, 4, 16, -7, numbers[0], numbers[1], numbers[2], numbers[3]);
    }

    private static void bundle() {
        RingPetition x = pair();
        due.outOfBounds("bundle(0) of none", () -> x.bundle(0));
        x.export(0);
        due.is("bundle(0)", x.bundle(0), 77);
        due.is("bundle(1)", x.bundle(1), 0);
        due.outOfBounds("bundle(2)", () -> x.bundle(2));
        due.outOfBounds("bundle(199)", () -> x.bundle(199));
        due.outOfBounds("bundle(200)", () -> x.bundle(200));
        for (int i : FAR) {
            due.outOfBounds("bundle(" + i + ")", () -> x.bundle(i));
        }
    }

    private static void poke() {
        RingPetition x = new RingPetition();
        due.outOfBounds("poke(1) of none", () -> x.poke(1, 0));
        for (int i = 0; i < 200; i++) {
            x.poke(i, MIN + i);
        }
        for (int i = 0; i < 200; i++) {
            due.is("bundle(" + i + ") as poked", x.bundle(i), MIN + i);
        }
        due.outOfBounds("poke(200)", () -> x.poke(200, 0));
        for (int i : FAR) {
            due.outOfBounds("poke(" + i + ")", () -> x.poke(i, 0));
        }
        x.poke(199, MAX);
        x.poke(0, -1);
        due.is("the last of 200, poked again", x.bundle(199), MAX);
        due.is("the first of 200, poked again", x.bundle(0), -1);
        due.outOfBounds("bundle(200) of 200", () -> x.bundle(200));
        x.cut(3);
        due.outOfBounds("poke(4) of three", () -> x.poke(4, 0));
        x.poke(3, 7);
        x.poke(1, 6);
        bundleIs("poked when cut", x, -1, 6, MIN + 2, 7);
    }

    private static void cut() {
        RingPetition x = pair();
        x.cut(0);
        due.illegalArgument("cut(1) of none", () -> x.cut(1));
        x.sign(0, 0, 0, 1, 5);
        x.submit(0, 0, 5);
        x.export(0);
        due.illegalArgument("cut(11) of ten", () -> x.cut(11));
        for (int n : FAR) {
            due.illegalArgument("cut(" + n + ")", () -> x.cut(n));
        }
        x.cut(10);
        bundleIs("cut(10) of ten", x, 77, 1, 2, 4, 16, 5, 111, 2020, 805, 137);
        x.cut(4);
        bundleIs("cut(4)", x, 77, 1, 2, 4);
        due.illegalArgument("cut(5) of four", () -> x.cut(5));
        x.cut(0);
        bundleIs("cut(0)", x);
        due.is("count after a cut", x.count(0), 1);
    }

    private static void check() {
        RingPetition x = pair();
        refused("no bundle", x);
        x.sign(0, 0, 0, 1, 5);
        x.submit(0, 0, 5);
        x.sign(0, 0, 1, 2, 6);
        x.submit(0, 0, 6);
        x.export(0);
        due.is("check()", x.check(), 2);
        int[] ints = new int[18];
        for (int i = 0; i < 18; i++) {
            ints[i] = x.bundle(i);
        }
        for (int i = 0; i < 18; i++) {
            for (int v : new int[] {ints[i] + 1, ints[i] - 1, ints[i] + 1013, ints[i] + 2027, -1, MIN, MAX}) {
                x.poke(i, v);
                refused("a bundle with " + v + " as int " + i, x);
            }
            x.poke(i, ints[i]);
            due.is("check() of the mended bundle", x.check(), 2);
        }
        x.poke(18, 0);
        refused("a bundle with one behind it", x);
        for (int n = 17; n >= 0; n--) {
            x.cut(n);
            refused("a bundle cut to " + n, x);
        }
        x.export(0);
        x.cut(10);
        x.poke(1, 1);
        due.is("check() of the first alone", x.check(), 1);
        due.is("count when checked", x.count(0), 2);
        draftIs("when checked", x, Chains.sign(Chains.keys(1, 2), 77, 6, 1, 2));
        RingPetition none = new RingPetition();
        setBundle(none, head(MAX, 0));
        due.is("check() of no signatures", none.check(), 0);
    }

    private static void checkOfForeignRings() {
        int[] turned = {939, 2020, 916, 171};
        due.is("check() of a ring in another order", stranger(77, new int[] {16, 4}, 5, turned).check(), 1);
        RingPetition x = new RingPetition();
        List<Integer> ints = head(MIN, 5);
        for (int n = 2; n <= 6; n++) {
            int[] secrets = new int[n];
            for (int i = 0; i < n; i++) {
                secrets[i] = 1012 - n * i;
            }
            secrets[n - 1] = n;
            int[] keys = Chains.keys(secrets);
            ints.addAll(Reference.bundled(keys, n, Chains.sign(keys, MIN, n, n - 1, n)));
        }
        setBundle(x, ints);
        due.is("check() of rings of two to six", x.check(), 5);
        due.illegalArgument("check() makes no topic", () -> x.count(0));
        due.illegalArgument("check() makes no ring", () -> x.sign(0, 0, 0, 1, 0));
    }
}
