import java.util.ArrayList;
import java.util.Arrays;
import java.util.HashSet;
import java.util.List;
import java.util.Set;

/** The sentences of the document's 'Terms' that name a boundary, in their order, each with a test of its own. */
public final class TermsEdgeTest {
    private static final Class<IllegalArgumentException> ARGUMENT = IllegalArgumentException.class;
    private static final Class<IllegalStateException> STATE = IllegalStateException.class;
    private static final Class<IndexOutOfBoundsException> BOUNDS = IndexOutOfBoundsException.class;
    private static final Class<UnsupportedOperationException> UNSUPPORTED = UnsupportedOperationException.class;

    private static final int MIN = Integer.MIN_VALUE;
    private static final int MAX = Integer.MAX_VALUE;
    private static final int[] PAIR_KEYS = {4, 16};

    private static final Due due = new Due();

    public static void main(String[] args) {
        callFiveHundredAndTwelve();
        everyNumberAsKey();
        everyNumberAsKeyOfBundle();
        everySecret();
        mixOfIntsThatWrap();
        baseAtEachCounter();
        baseIsNotOne();
        baseIsOfTheGroup();
        membersAtMostTwelve();
        ringsOfTwoToSix();
        ringsKeepTheOrderOfNumbers();
        ringsAtMostEight();
        topicsAtMostSix();
        topicsOfAnyValue();
        topicsOpenAndClosed();
        motionsOfAnyInt();
        everyTagOfTheGroup();
        tagsThatAreNone();
        tagsOfOtherMembers();
        challengeAndResponses();
        responseOfMinusOne();
        stepsAtEachPlace();
        signingGoesRound();
        ownResponseAtItsEdges();
        draftAtFirst();
        storedInOrderAtMostEight();
        noTwoOfOneTag();
        bundleAtMostTwoHundred();
        due.finish("TermsEdgeTest");
    }

    private static Twins twins(String name) {
        return new Twins(due, name);
    }

    private static List<Integer> bundleOfOne(int value, int[] keys, int motion, int[] numbers) {
        List<Integer> ints = new ArrayList<>(List.of(value, 1));
        ints.addAll(Reference.bundled(keys, motion, numbers));
        return ints;
    }

    /** "An object is used for at most 512 calls after it has been made": so the 512th is answered as any other. */
    private static void callFiveHundredAndTwelve() {
        Twins full = twins("512 calls").does(Scenes.DOZEN + Scenes.signatures(1, 8) + "export 0");
        for (int call = 15 + 16 + 1 + 1; call <= 507; call += 3) {
            full.gives(8, "recount 0").gives(8, "check").gives(5, "bundle 0");
        }
        full.does("topic 6").gives(0, "close 1").gives(8, "close 0");
        due.is("calls made", full.callsMade(), 512);

        Twins late = twins("the 512th submits").does(Scenes.PAIR);
        for (int call = 5; call <= 511; call++) {
            late.gives(call % 2 == 0 ? 49 : 2020, call % 2 == 0 ? "sign 0 0 1 2 5" : "sign 0 0 0 1 5");
        }
        late.gives(1, "submit 0 0 5");
        due.is("calls made", late.callsMade(), 512);
    }

    /** "THE GROUP are the numbers x, 1 .. 2026, of which the power Q = 1013 is 1". */
    private static void everyNumberAsKey() {
        int taken = 0;
        for (int x = -2 * Chains.P; x <= 4 * Chains.P; x++) {
            boolean fits = x != 1 && Chains.inGroup(x);
            taken += fits ? 1 : 0;
            String want = fits ? "0" : ARGUMENT.getSimpleName();
            due.same("member(" + x + ")", Calls.answer(new RingPetition(), "member", x), want);
        }
        due.is("it has Q members", taken + 1, Chains.Q);
        twins("the least and the greatest").refusesAll(ARGUMENT, "member 0; member 1; member 2; member 2024;"
                + "member 2026; member 2027; member 2028").gives(0, "member 3").gives(1, "member 2025").showTheSame();
    }

    /** The same of a bundle's keys, which nobody has looked at before. */
    private static void everyNumberAsKeyOfBundle() {
        for (int x = -30; x <= 2 * Chains.P; x++) {
            checkOfKey(x, x, 4);
            checkOfKey(x, 4, x);
        }
        for (int x : new int[] {MIN, MIN + 4, 4 - Chains.P, 16 - Chains.P, 16 + 2 * Chains.P, MAX - 3, MAX}) {
            checkOfKey(x, x, 64, 4);
            checkOfKey(x, 4, 64, x);
        }
    }

    /** A ring with the key x in which another, whose secret is 1, signs, so that the chain comes back. */
    private static void checkOfKey(int x, int... keys) {
        int place = keys[0] == 4 ? 0 : keys.length - 1;
        List<Integer> ints = bundleOfOne(9, keys, x, Chains.sign(keys, 9, x, place, 1));
        RingPetition stranger = new RingPetition();
        for (int i = 0; i < ints.size(); i++) {
            stranger.poke(i, ints.get(i));
        }
        boolean fits = x != 1 && x != 4 && Chains.inGroup(x);
        due.same("check() of key " + x, Calls.answer(stranger, "check"), fits ? "1" : ARGUMENT.getSimpleName());
    }

    /** "A SECRET is 1 .. 1012; its KEY is the power of G by it." */
    private static void everySecret() {
        RingPetition x = new RingPetition();
        int power = 1;
        for (int secret = 1; secret <= 1012; secret++) {
            power = power * 4 % 2027;
            due.is("key(" + secret + ")", x.key(secret), power);
        }
        due.is("the power of G by Q, which is no secret", power * 4 % 2027, 1);
        twins("secrets").refusesAll(ARGUMENT, "key MIN; key -1013; key -1012; key -1; key 0; key 1013; key 1014;"
                + "key 2025; key 2026; key MAX").gives(4, "key 1").gives(507, "key 1012").showTheSame();
    }

    /** "products of ints wrap", and shifts are "without sign": the values and motions where this shows most. */
    private static void mixOfIntsThatWrap() {
        int[] far = {MIN, MIN + 1, -2, -1, 0, 1, 0x9E3779B1, 0x7FFF8000, MAX - 1, MAX};
        for (int value : far) {
            Twins x = twins("the value " + value).does(Scenes.members(3) + "ring 7; topic " + value);
            for (int motion : far) {
                int[] keys = Chains.keys(1, 2, 3);
                int[] due = Chains.sign(keys, value, motion, 1, 2);
                x.gives(due[1], "sign 0 0 1 2 " + motion);
                for (int i = 0; i < due.length; i++) {
                    x.gives(due[i], "draft " + i);
                }
            }
            x.gives(1, "submit 0 0 MAX").showTheSame();
        }
    }

    /** "the counters k = 0 to 63": no int's base needs a counter above 31, so these are all that can be tested. */
    private static void baseAtEachCounter() {
        int[] values = {
            1, 0, 6, -2, -8, -46, 10, -38, -1791, -755, 227, -1299, -2711, 1726, 3533, -16487, 44954, 31795, -31676,
            -194010, 1670722, -142229, -3378577, 2138256676, 4474220, 2124186479, 2075233733, 1995805313, 975333632,
            731331025, 1463338914, 1219336307};
        for (int k = 0; k < values.length; k++) {
            int base = (int) ((Chains.mix(values[k], k) >> 1) % Chains.P);
            due.is("the counter " + k + " finds a key", base != 1 && Chains.inGroup(base), true);
            twins("the base at counter " + k).does("topic " + values[k]).gives(base, "base 0");
        }
        twins("the farthest base").does("topic 1219336307").gives(1244, "base 0").showTheSame();
    }

    /** "the first one of the group but 1": 1 comes first, at counter 0 or later, and is passed over. */
    private static void baseIsNotOne() {
        int[][] pairs = {{1249, 1894}, {-1659, 212}, {3094, 64}, {1247, 31}, {-280, 1063}, {-1270, 140}};
        Twins x = twins("bases behind a 1");
        for (int i = 0; i < pairs.length; i++) {
            x.does("topic " + pairs[i][0]).gives(pairs[i][1], "base " + i);
        }
        x.showTheSame();
    }

    /** "m modulo P" of the group: 0, 2 and 2026 come first and are passed over; 3, 2025 and G are taken. */
    private static void baseIsOfTheGroup() {
        int[][] pairs = {{17, 411}, {86, 852}, {442, 1216}, {1083, 3}, {277, 2025}, {4427, 4}};
        Twins x = twins("bases at the group's edges");
        for (int i = 0; i < pairs.length; i++) {
            x.does("topic " + pairs[i][0]).gives(pairs[i][1], "base " + i);
        }
        x.showTheSame();
    }

    /** "members have numbers 0, 1, .. (at most 12)". */
    private static void membersAtMostTwelve() {
        Twins x = twins("members");
        for (int i = 0; i < 12; i++) {
            x.gives(i, "member " + Chains.power(Chains.G, 1012 - i));
        }
        x.refusesAll(STATE, "member 4; member 2025; member 3").gives(0, "ring 2049").does("topic 0");
        x.gives(Chains.power(124, 1001), "sign 0 0 1 1001 0").showTheSame();
    }

    /** "A RING is a row of 2 to 6 members". */
    private static void ringsOfTwoToSix() {
        Twins x = twins("sizes of rings").does(Scenes.members(12));
        x.refusesAll(ARGUMENT, "ring 0; ring 1; ring 2048; ring 127; ring 4064; ring 255; ring 4095");
        x.gives(0, "ring 3").gives(1, "ring 3072").gives(2, "ring 2049").gives(3, "ring 7").gives(4, "ring 2730");
        x.gives(5, "ring 63").gives(6, "ring 4032").gives(7, "ring 31").showTheSame();
    }

    /** "by their numbers": a ring's keys stand as its members came, not as they are great. */
    private static void ringsKeepTheOrderOfNumbers() {
        Twins x = twins("the order in rings").does("member 2025; member 3; member 64; member 16; member 4; topic 77");
        x.gives(0, "ring 24").gives(1, "ring 31").gives(2, "ring 22");
        x.gives(49, "sign 0 0 0 2 5").gives(2020, "sign 0 0 1 1 5");
        int[] numbers = Chains.sign(new int[] {3, 64, 4}, 77, 5, 1, 3);
        x.gives(numbers[1], "sign 2 0 1 3 5").gives(1, "submit 2 0 5").gives(12, "export 0");
        int[] keys = {3, 3, 64, 4};
        for (int i = 0; i < keys.length; i++) {
            x.gives(keys[i], "bundle " + (2 + i));
        }
        x.showTheSame();
    }

    /** "a number (at most 8 rings)". */
    private static void ringsAtMostEight() {
        Twins x = twins("rings").does(Scenes.members(3));
        for (int i = 0; i < 8; i++) {
            x.gives(i, i % 2 == 0 ? "ring 3" : "ring 7");
        }
        x.refusesAll(STATE, "ring 3; ring 7; ring 5").does("topic 77; sign 7 0 2 3 1").gives(1, "submit 7 0 1");
        x.refuses(ARGUMENT, "sign 8 0 0 1 1").showTheSame();
    }

    /** "Topics have numbers (at most 6)". */
    private static void topicsAtMostSix() {
        Twins x = twins("topics").does("member 4; member 16; ring 3");
        for (int i = 0; i < 6; i++) {
            x.gives(i, "topic " + (i - 3));
        }
        x.refusesAll(STATE, "topic 0; topic 3; topic MIN; topic MAX").gives(0, "close 5").refuses(STATE, "topic 3");
        x.refuses(ARGUMENT, "base 6").does("sign 0 4 1 2 1").gives(1, "submit 0 4 1").showTheSame();
    }

    /** "A TOPIC has a value, any int", and two may have the same. */
    private static void topicsOfAnyValue() {
        Twins x = twins("values").does("member 4; member 16; ring 3");
        int[] values = {MIN, -1, 0, MAX, 77, 77};
        for (int i = 0; i < values.length; i++) {
            x.gives(i, "topic " + values[i]).gives(2, "export " + i).gives(values[i], "bundle 0").gives(0, "check");
        }
        x.gives(2020, "sign 0 4 0 1 5").gives(1, "submit 0 4 5").gives(0, "seen 5").gives(1, "submit 0 5 5");
        x.refuses(UNSUPPORTED, "submit 0 5 5").refuses(ARGUMENT, "submit 0 3 5").showTheSame();
    }

    /** "and are open or CLOSED": each by itself, and open at first. */
    private static void topicsOpenAndClosed() {
        Twins x = twins("open and closed").does(Scenes.PAIR + "topic 77; topic 77; close 1; sign 0 0 0 1 5");
        x.gives(1, "submit 0 0 5").refuses(STATE, "submit 0 1 5").gives(1, "submit 0 2 5").gives(1, "close 2");
        x.refusesAll(STATE, "submit 0 2 5; submit 0 2 6; close 1; close 2");
        x.gives(3, "topic 77").gives(1, "submit 0 3 5").showTheSame();
    }

    /** "a MOTION (any int)". */
    private static void motionsOfAnyInt() {
        Twins x = twins("motions").does(Scenes.DOZEN);
        int[] motions = {MIN, MIN + 1, -1, 0, 1, MAX - 1, MAX};
        for (int k = 0; k < motions.length; k++) {
            x.does(Scenes.signing(k + 1, motions[k])).refuses(ARGUMENT, Scenes.submission(k + 1, motions[k] + 1));
            x.refuses(ARGUMENT, Scenes.submission(k + 1, ~motions[k]));
            x.gives(k + 1, Scenes.submission(k + 1, motions[k]));
            x.does("export 0").gives(motions[k], "bundle " + (9 + 16 * k));
        }
        x.gives(7, "recount 0").gives(7, "check").showTheSame();
    }

    /** "the tag is one of the group but 1": with some secret every one of these is a tag. */
    private static void everyTagOfTheGroup() {
        Set<Integer> tags = new HashSet<>();
        for (int secret = 1; secret <= 1012; secret++) {
            RingPetition x = new RingPetition();
            x.member(x.key(secret));
            x.member(x.key(1013 - secret));
            x.ring(3);
            x.topic(77);
            int tag = x.sign(0, 0, 0, secret, secret);
            due.is("the tag of the secret " + secret, tag, Chains.power(2020, secret));
            due.is("submit with the tag " + tag, x.submit(0, 0, secret), 1);
            x.export(0);
            due.is("check() with the tag " + tag, x.check(), 1);
            tags.add(tag);
        }
        due.is("different tags", tags.size(), 1012);
        due.is("3 and 2025 are some", tags.contains(3) && tags.contains(2025), true);
    }

    /** The same sentence: chains that come back, with a tag that is none. */
    private static void tagsThatAreNone() {
        int[] tags = {0, 1, 2, 2024, 2026, 2027, 2028, 2030, 2027 - 49, 2027 + 49, 49 - 2027, -1, -2, MIN, MAX};
        for (int tag : tags) {
            int[] forged = Chains.forge(PAIR_KEYS, 77, 1, 2, tag);
            int[] numbers = Arrays.copyOf(forged, 4);
            Twins x = twins("the tag " + tag).does(Scenes.PAIR + "sign 0 0 1 2 5; submit 0 0 5; sign 0 0 0 1 5");
            x.does(Scenes.edits(numbers)).refuses(ARGUMENT, "submit 0 0 " + forged[4]);
            x.does(Scenes.pokes(bundleOfOne(77, PAIR_KEYS, forged[4], numbers))).refuses(ARGUMENT, "check");
            x.does("spoil 0 0 1 " + tag).gives(-1, "recount 0").gives(1, "seen 0").showTheSame();
        }
    }

    /** It needn't be a member's tag: whatever chain comes back with one of the group is good. */
    private static void tagsOfOtherMembers() {
        for (int tag : new int[] {3, 4, 2025, 2020}) {
            int[] forged = Chains.forge(PAIR_KEYS, 77, 1, 2, tag);
            int[] numbers = Arrays.copyOf(forged, 4);
            Twins x = twins("the forged tag " + tag).does(Scenes.PAIR + "sign 0 0 1 2 5;" + Scenes.edits(numbers));
            x.gives(1, "submit 0 0 " + forged[4]).gives(1, "recount 0");
            x.does(Scenes.pokes(bundleOfOne(77, PAIR_KEYS, forged[4], numbers))).gives(1, "check").showTheSame();
        }
    }

    /** "the challenge and the responses are 0 .. 1012": no others, though their powers or low bits are the same. */
    private static void challengeAndResponses() {
        for (int i : new int[] {0, 2, 3}) {
            for (int edge : new int[] {0, 1, 1011, 1012}) {
                int motion = motionWith(i, edge);
                Twins x = twins("number " + i + " being " + edge).does(Scenes.PAIR + "sign 0 0 0 1 " + motion);
                x.gives(edge, "draft " + i);
                int[] numbers = x.drafted();
                int nearMin = MIN + Math.floorMod((long) edge - MIN, 1013);
                int nearMax = MAX - Math.floorMod((long) MAX - edge, 1013);
                for (int v : new int[] {edge + 1013, edge - 1013, edge + 1024, edge - 1024, nearMin, nearMax, ~edge}) {
                    numbers[i] = v;
                    x.does("edit " + i + " " + v).refuses(ARGUMENT, "submit 0 0 " + motion);
                    x.does(Scenes.pokes(bundleOfOne(77, PAIR_KEYS, motion, numbers))).refuses(ARGUMENT, "check");
                }
                x.does("edit " + i + " " + edge).gives(1, "submit 0 0 " + motion);
                x.gives(10, "export 0").gives(1, "check").showTheSame();
            }
        }
    }

    /** The first one below 0, where its low ten bits (those of 10 + 1013) or its rest (1012) would do. */
    private static void responseOfMinusOne() {
        for (int i : new int[] {2, 3}) {
            for (int alike : new int[] {10, 1012}) {
                int motion = motionWith(i, alike);
                Twins x = twins("-1 for " + alike).does(Scenes.PAIR + "sign 0 0 0 1 " + motion);
                x.does("edit " + i + " -1").refuses(ARGUMENT, "submit 0 0 " + motion);
                x.does("edit " + i + " " + alike).gives(1, "submit 0 0 " + motion).does("export 0");
                x.does("spoil 0 0 " + i + " -1; poke " + (6 + i) + " -1");
                x.gives(-1, "recount 0").refuses(ARGUMENT, "check").showTheSame();
            }
        }
    }

    /** A motion for which the first of the pair signs with v as number i. */
    private static int motionWith(int i, int v) {
        for (int motion = 0; motion < 100000; motion++) {
            if (Chains.sign(PAIR_KEYS, 77, motion, 0, 1)[i] == v) {
                return motion;
            }
        }
        throw new AssertionError("no motion gives " + v + " as number " + i);
    }

    /** "the n steps from the first challenge, at place 0, 1, .. n - 1, with the response of each place". */
    private static void stepsAtEachPlace() {
        for (int n = 2; n <= 6; n++) {
            Twins x = twins("a ring of " + n).does(Scenes.members(6) + "topic 77; ring " + ((1 << n) - 1));
            x.does("sign 0 0 0 1 7");
            int[] numbers = x.drafted();
            for (int i = 0; i < 2 + n; i++) {
                int other = i == 1 ? Chains.power(numbers[1], 2) : (numbers[i] + 1) % 1013;
                x.does("edit " + i + " " + other).refuses(ARGUMENT, "submit 0 0 7");
                x.does("edit " + i + " " + numbers[i]);
            }
            x.gives(1, "submit 0 0 7").showTheSame();
        }
    }

    /** "the challenge of the next place (of place 0 behind the last one)": from the first place, the last, between. */
    private static void signingGoesRound() {
        for (int n = 2; n <= 6; n++) {
            int[] secrets = Arrays.copyOf(new int[] {1012, 1, 506, 507, 2, 1011}, n);
            int[] keys = Chains.keys(secrets);
            Twins x = twins("signing in a ring of " + n);
            for (int key : keys) {
                x.does("member " + key);
            }
            x.does("ring " + ((1 << n) - 1) + "; topic -5");
            for (int place = 0; place < n; place++) {
                int[] numbers = Chains.sign(keys, -5, n, place, secrets[place]);
                x.gives(numbers[1], "sign 0 0 " + place + " " + secrets[place] + " " + n);
                for (int i = 0; i < numbers.length; i++) {
                    x.gives(numbers[i], "draft " + i);
                }
                x.gives(place + 1, "submit 0 0 " + n);
            }
            x.gives(n, "recount 0").showTheSame();
        }
    }

    /** "u - s * c modulo Q, 0 .. 1012": at both edges, and when c is 0, so that it is u itself. */
    private static void ownResponseAtItsEdges() {
        for (int edge : new int[] {0, 1012}) {
            for (int secret : new int[] {1, 1012}) {
                ownResponse(secret, edge, 2);
            }
        }
        ownResponse(1012, 0, 0);
        ownResponse(1012, 1012, 0);
    }

    /** One with that secret signs at place 0 so that number i of the signature is v. */
    private static void ownResponse(int secret, int v, int i) {
        int[] keys = Chains.keys(secret, 5);
        int motion = 0;
        while (Chains.sign(keys, 77, motion, 0, secret)[i] != v) {
            motion++;
        }
        Twins x = twins("number " + i + " of the secret " + secret).does("member " + keys[0] + "; member " + keys[1]);
        x.does("ring 3; topic 77; sign 0 0 0 " + secret + " " + motion).gives(v, "draft " + i);
        x.gives(1, "submit 0 0 " + motion).gives(1, "recount 0").showTheSame();
    }

    /** "at first: challenge 0, tag 0, no responses". */
    private static void draftAtFirst() {
        Twins x = twins("the first draft").gives(0, "draft 0").gives(0, "draft 1");
        x.refusesAll(BOUNDS, "draft 2; edit 2 0");
        x.does(Scenes.PAIR).gives(0, "draft 0").gives(0, "draft 1").refusesAll(BOUNDS, "draft 2; edit 2 0");
        x.refuses(ARGUMENT, "submit 0 0 0").gives(0, "seen 0").does("edit 1 2020; edit 0 111");
        x.refuses(ARGUMENT, "submit 0 0 5").refuses(BOUNDS, "edit 2 805").showTheSame();
    }

    /** "in the order in which they came, ... at most 8". */
    private static void storedInOrderAtMostEight() {
        Twins x = twins("stored").does(Scenes.DOZEN);
        int[] secrets = {12, 1, 7, 6, 2, 11, 5, 8};
        for (int k = 0; k < 8; k++) {
            x.does(Scenes.signing(secrets[k], -k)).gives(k + 1, Scenes.submission(secrets[k], -k));
        }
        x.does(Scenes.signing(3, 9)).refuses(UNSUPPORTED, Scenes.submission(3, 9)).gives(8, "count 0").does("export 0");
        for (int k = 0; k < 8; k++) {
            x.gives(-k, "bundle " + (9 + 16 * k));
            x.gives(Chains.power(Chains.base(5), secrets[k]), "bundle " + (11 + 16 * k));
        }
        x.showTheSame();
    }

    /** "no two have the same tag (but by spoil())". */
    private static void noTwoOfOneTag() {
        Twins x = twins("tags").does(Scenes.DOZEN + "ring 3;" + Scenes.signatures(1, 7));
        for (int secret = 1; secret <= 7; secret++) {
            x.does(Scenes.signing(secret, 99)).refuses(UNSUPPORTED, Scenes.submission(secret, 99));
        }
        x.does("sign 2 0 0 1 99").refuses(UNSUPPORTED, "submit 2 0 99").gives(7, "recount 0");
        int tag = Chains.power(Chains.base(5), 7);
        x.does("spoil 0 0 1 " + tag + "; submit 2 0 99").gives(8, "count 0").gives(-1, "recount 0").showTheSame();
    }

    /** "a row of at most 200 ints (at first none)". */
    private static void bundleAtMostTwoHundred() {
        Twins x = twins("the bundle").refusesAll(BOUNDS, "bundle 0; poke 1 0").refuses(ARGUMENT, "cut 1");
        x.does("cut 0;" + Scenes.zeros(0, 199)).refuses(BOUNDS, "bundle 199").does("poke 199 7").gives(7, "bundle 199");
        x.refusesAll(BOUNDS, "poke 200 0; bundle 200; poke 201 0").refuses(ARGUMENT, "cut 201").does("poke 199 8");
        x.gives(8, "bundle 199").does("cut 200").gives(8, "bundle 199").does("cut 199").refuses(BOUNDS, "bundle 199");
        x.refuses(BOUNDS, "poke 200 0").does("poke 199 9").gives(9, "bundle 199").showTheSame();
    }
}
