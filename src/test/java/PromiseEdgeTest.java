import java.util.ArrayList;
import java.util.Arrays;
import java.util.List;

/** The sentences of the promises that name a boundary, promise by promise; those of 'Terms' are in TermsEdgeTest. */
public final class PromiseEdgeTest {
    private static final Class<IllegalArgumentException> ARGUMENT = IllegalArgumentException.class;
    private static final Class<IllegalStateException> STATE = IllegalStateException.class;
    private static final Class<IndexOutOfBoundsException> BOUNDS = IndexOutOfBoundsException.class;
    private static final Class<UnsupportedOperationException> UNSUPPORTED = UnsupportedOperationException.class;

    private static final int MIN = Integer.MIN_VALUE;
    private static final int MAX = Integer.MAX_VALUE;

    private static final Due due = new Due();

    public static void main(String[] args) {
        newObjectHasNothing();
        newObjectSharesNothing();
        memberOfAnothersKey();
        ringOfMembersThatAreNone();
        ringOfTheLastMember();
        baseOfEachTopic();
        signInRingsThatAreNone();
        signForTopicsThatAreNone();
        signAtEachPlace();
        signWithOtherSecrets();
        signWhenStoredFullOrClosed();
        draftsOfEachSize();
        editsOfEachSize();
        submitForWhatIsNone();
        submitOfNoGoodOne();
        submitOfTooManyResponses();
        submitOfTooFewResponses();
        submitInAnEqualRing();
        submitWhenClosed();
        submitOfStoredTag();
        submitOfNinth();
        countsUpToEight();
        seenFromNoneToEight();
        seenOfEqualTagsAlone();
        recountOfNoneToEight();
        recountTellsTheFirst();
        recountOfEqualTags();
        spoilAtEachEdge();
        spoilOfNone();
        spoilLeavesTheRest();
        closeOnce();
        exportOfEachSize();
        exportReplacesTheBundle();
        bundleFromFirstToLast();
        pokeFromFirstToBehindLast();
        cutFromNoneToAll();
        checkOfNoInts();
        checkOfNoneToEight();
        checkOfNine();
        checkOfCountsThatAreNone();
        checkOfRingsOfOneAndSeven();
        checkOfSizesThatWrap();
        checkOfEqualKeys();
        checkInAnyOrder();
        checkOfEqualTags();
        checkOfOneThatIsNotGood();
        checkOfIntsBehind();
        checkOfIntsThatLack();
        checkNeedsNothingElse();
        due.finish("PromiseEdgeTest");
    }

    private static Twins twins(String name) {
        return new Twins(due, name);
    }

    private static int tagOfDozen(int secret) {
        return Chains.power(Chains.base(5), secret);
    }

    // 1: "No members, rings, topics; nothing is drafted."

    private static void newObjectHasNothing() {
        Twins x = twins("a new object").gives(0, "draft 0").gives(0, "draft 1").refuses(BOUNDS, "draft 2");
        x.refusesAll(ARGUMENT, "ring 3; base 0; count 0; seen 0; recount 0; spoil 0 0 0 0; close 0; export 0; check;"
                + "sign 0 0 0 1 0; submit 0 0 0; cut 1").refusesAll(BOUNDS, "bundle 0; poke 1 0");
        x.gives(0, "member 4").gives(1, "member 16").gives(0, "ring 3").gives(0, "topic 0").showTheSame();
    }

    private static void newObjectSharesNothing() {
        Twins used = twins("a used object").does(Scenes.DOZEN + Scenes.signatures(1, 8) + "export 0; close 0");
        Twins x = twins("a new object beside a used one").gives(0, "member 4").refuses(ARGUMENT, "ring 3");
        x.gives(0, "topic 5").gives(0, "count 0").gives(0, "draft 0").refuses(BOUNDS, "bundle 0").showTheSame();
        used.gives(8, "count 0").gives(8, "check").showTheSame();
    }

    // 2: "or that of another member"

    private static void memberOfAnothersKey() {
        Twins x = twins("members' keys");
        for (int i = 0; i < 12; i++) {
            x.gives(i, "member " + Chains.power(4, i + 1)).refuses(ARGUMENT, "member " + Chains.power(4, i + 1));
            x.refuses(ARGUMENT, "member 4").refuses(ARGUMENT, "member " + (4 + 2027));
        }
        x.refuses(STATE, "member " + Chains.power(4, 13)).showTheSame();
    }

    // 4: "the members whose bits are in members", "or one is none"

    private static void ringOfMembersThatAreNone() {
        for (int n = 0; n <= 12; n++) {
            Twins x = twins(n + " members").does(Scenes.members(n));
            for (int bit = n; bit < 32; bit++) {
                x.refuses(ARGUMENT, "ring " + (1 | 1 << bit)).refuses(ARGUMENT, "ring " + (3 | 1 << bit));
            }
            x.refusesAll(ARGUMENT, "ring -1; ring MIN; ring MAX; ring 0").refuses(ARGUMENT, "ring " + (-1 << n));
            x.showTheSame();
        }
    }

    private static void ringOfTheLastMember() {
        for (int n = 2; n <= 12; n++) {
            Twins x = twins("the last of " + n).does(Scenes.members(n - 1) + "topic 9");
            int last = 1 << n - 1;
            x.refuses(ARGUMENT, "ring " + (1 | last)).does("member " + Chains.power(4, n));
            x.gives(0, "ring " + (1 | last));
            x.gives(Chains.power(Chains.base(9), n), "sign 0 0 1 " + n + " 0").showTheSame();
        }
    }

    // 6: "IllegalArgumentException: there is none such."

    private static void baseOfEachTopic() {
        Twins x = twins("bases").refusesAll(ARGUMENT, "base 0; base -1");
        int[] bases = {124, 967, 411, 852, 2020, 1216};
        int[] values = {0, 1, 17, 86, 77, 442};
        for (int t = 0; t < 6; t++) {
            x.refuses(ARGUMENT, "base " + t).does("topic " + values[t]).gives(bases[t], "base " + t);
            x.gives(bases[0], "base 0").refusesAll(ARGUMENT, "base -1; base MIN; base MAX; base 65536");
        }
        x.refusesAll(ARGUMENT, "base 6; base 7").showTheSame();
    }

    // 7: "there is no such ring, topic, or place in the ring, or the secret is not that of the key there"

    private static void signInRingsThatAreNone() {
        Twins x = twins("sign in rings").does(Scenes.members(2) + "topic 77");
        for (int r = 0; r < 8; r++) {
            x.refuses(ARGUMENT, "sign " + r + " 0 0 1 5").does("ring 3").gives(2020, "sign " + r + " 0 0 1 5");
            x.refusesAll(ARGUMENT, "sign -1 0 1 2 5; sign MIN 0 1 2 5; sign MAX 0 1 2 5; sign 8 0 1 2 5");
        }
        x.gives(111, "draft 0").gives(2020, "draft 1").showTheSame();
    }

    private static void signForTopicsThatAreNone() {
        Twins x = twins("sign for topics").does(Scenes.members(2) + "ring 3");
        for (int t = 0; t < 6; t++) {
            x.refuses(ARGUMENT, "sign 0 " + t + " 0 1 5").does("topic 77").gives(2020, "sign 0 " + t + " 0 1 5");
            x.refusesAll(ARGUMENT, "sign 0 -1 1 2 5; sign 0 MIN 1 2 5; sign 0 MAX 1 2 5; sign 0 6 1 2 5");
        }
        x.gives(111, "draft 0").gives(2020, "draft 1").showTheSame();
    }

    /** A place behind the ring's last is none, though there is a member of that number. */
    private static void signAtEachPlace() {
        Twins x = twins("places").does(Scenes.members(7) + "topic 77; ring 3; ring 7; ring 15; ring 31; ring 63;"
                + "ring 126");
        for (int r = 0; r < 5; r++) {
            int n = r + 2;
            x.refuses(ARGUMENT, "sign " + r + " 0 " + n + " " + (n + 1) + " 5");
            x.refuses(ARGUMENT, "sign " + r + " 0 " + n + " 1 5").refuses(ARGUMENT, "sign " + r + " 0 -1 1 5");
            x.refuses(ARGUMENT, "sign " + r + " 0 -1 " + n + " 5").refuses(ARGUMENT, "sign " + r + " 0 MIN 1 5");
            x.refuses(ARGUMENT, "sign " + r + " 0 MAX 1 5");
            x.gives(2020, "sign " + r + " 0 0 1 5");
            x.gives(Chains.power(2020, n), "sign " + r + " 0 " + (n - 1) + " " + n + " 5");
        }
        x.gives(Chains.power(2020, 7), "sign 5 0 5 7 5").refuses(ARGUMENT, "sign 5 0 6 7 5").showTheSame();
    }

    private static void signWithOtherSecrets() {
        int least = 1;
        int greatest = 1012;
        Twins x = twins("secrets").does("member 4; member 507; ring 3; topic 77");
        for (int other : new int[] {0, 2, 1011, 1012, 1013, 1014, -1012, -1, 1025, 2027, -2025, MIN, MAX}) {
            x.refuses(ARGUMENT, "sign 0 0 0 " + other + " 5");
        }
        for (int other : new int[] {0, 1, 2, 1011, 1013, 2025, -1, -1014, 2036, 1012 - 1024, MIN, MAX}) {
            x.refuses(ARGUMENT, "sign 0 0 1 " + other + " 5");
        }
        x.gives(2020, "sign 0 0 0 " + least + " 5");
        x.gives(Chains.power(2020, greatest), "sign 0 0 1 " + greatest + " 5").gives(1, "submit 0 0 5").showTheSame();
    }

    /** Nothing of this keeps a member from signing. */
    private static void signWhenStoredFullOrClosed() {
        Twins x = twins("sign for a full topic").does(Scenes.DOZEN + Scenes.signatures(1, 8));
        x.gives(tagOfDozen(9), Scenes.signing(9, 0)).gives(tagOfDozen(1), Scenes.signing(1, 0)).does("close 0");
        x.gives(tagOfDozen(12), Scenes.signing(12, 0)).gives(tagOfDozen(8), Scenes.signing(8, 1)).showTheSame();
    }

    // 8 and 9: "it has no such number"; "becomes v, whatever that is"

    private static void draftsOfEachSize() {
        Twins x = twins("drafts").does(Scenes.members(6) + "topic 5; ring 3; ring 7; ring 15; ring 31; ring 63");
        for (int r : new int[] {4, 3, 2, 1, 0, 1, 2, 3, 4, 0}) {
            int[] keys = Chains.keys(Arrays.copyOf(new int[] {1, 2, 3, 4, 5, 6}, r + 2));
            int[] numbers = Chains.sign(keys, 5, r, r + 1, r + 2);
            x.gives(numbers[1], "sign " + r + " 0 " + (r + 1) + " " + (r + 2) + " " + r);
            for (int i = 0; i < numbers.length; i++) {
                x.gives(numbers[i], "draft " + i);
            }
            x.refuses(BOUNDS, "draft " + numbers.length).refusesAll(BOUNDS, "draft 8; draft -1; draft MIN; draft MAX");
        }
        x.showTheSame();
    }

    private static void editsOfEachSize() {
        Twins x = twins("edits").does(Scenes.members(6) + "topic 5; ring 3; ring 7; ring 15; ring 31; ring 63");
        x.does("edit 0 MIN; edit 1 MAX").gives(MIN, "draft 0").gives(MAX, "draft 1").refuses(BOUNDS, "edit 2 0");
        for (int r : new int[] {4, 0, 2}) {
            x.does("sign " + r + " 0 0 1 0");
            int last = r + 3;
            for (int v : new int[] {MIN, -1, 0, 1013, MAX}) {
                x.does("edit 0 " + v + "; edit " + last + " " + v).gives(v, "draft 0").gives(v, "draft " + last);
            }
            x.refuses(BOUNDS, "edit " + (last + 1) + " 0").refuses(BOUNDS, "draft " + (last + 1));
            x.refusesAll(BOUNDS, "edit 8 0; edit -1 0; edit MIN 0; edit MAX 0");
        }
        x.showTheSame();
    }

    // 10: "there is no such ring or topic"

    private static void submitForWhatIsNone() {
        Twins x = twins("submit for what is none").does(Scenes.PAIR + "sign 0 0 0 1 5");
        x.refusesAll(ARGUMENT, "submit 1 0 5; submit -1 0 5; submit MIN 0 5; submit MAX 0 5; submit 8 0 5");
        x.refusesAll(ARGUMENT, "submit 0 1 5; submit 0 -1 5; submit 0 MIN 5; submit 0 MAX 5; submit 0 6 5");
        x.refusesAll(ARGUMENT, "submit 1 1 5; submit -1 -1 5");
        x.gives(0, "count 0").gives(1, "submit 0 0 5").showTheSame();
    }

    /** "the draft is no good signature for this ring ..., topic and motion". */
    private static void submitOfNoGoodOne() {
        Twins x = twins("submit of no good one").does(Scenes.DOZEN + "topic 6; topic 5; ring 62; ring 95");
        x.does("sign 0 0 2 3 9");
        x.refusesAll(ARGUMENT, "submit 0 0 8; submit 0 0 10; submit 0 0 -9; submit 0 1 9; submit 1 0 9; submit 2 0 9;"
                + "submit 3 0 9");
        x.gives(1, "submit 0 0 9").gives(1, "submit 0 2 9").gives(0, "count 1").showTheSame();
    }

    /** "(it has another number of responses, too)": one more, behind those that would do. */
    private static void submitOfTooManyResponses() {
        for (int more = 0; more <= 1012; more += 253) {
            Twins x = twins("a response too many").does(Scenes.members(3) + "ring 3; ring 7; topic 77; sign 1 0 0 1 5");
            x.does("edit 0 111; edit 1 2020; edit 2 805; edit 3 137; edit 4 " + more);
            x.refusesAll(ARGUMENT, "submit 0 0 5; submit 1 0 5").gives(0, "count 0");
            x.does("sign 0 0 0 1 5").gives(111, "draft 0").gives(805, "draft 2").gives(1, "submit 0 0 5").showTheSame();
        }
    }

    /** The same: one less, though a draft before this one had it. */
    private static void submitOfTooFewResponses() {
        Twins x = twins("a response too few").does(Scenes.members(3) + "ring 3; ring 7; topic 77; sign 1 0 2 3 5");
        int[] numbers = x.drafted();
        x.does("sign 0 0 0 1 5");
        for (int i = 0; i < 4; i++) {
            x.does("edit " + i + " " + numbers[i]);
        }
        x.refusesAll(ARGUMENT, "submit 1 0 5; submit 0 0 5").refuses(BOUNDS, "edit 4 " + numbers[4]);
        x.does("sign 1 0 2 3 5").gives(1, "submit 1 0 5").showTheSame();
    }

    /** What is signed in one ring is good for another of the same keys, too. */
    private static void submitInAnEqualRing() {
        Twins x = twins("an equal ring").does(Scenes.PAIR + "ring 3; sign 0 0 0 1 5").gives(1, "submit 1 0 5");
        x.refuses(UNSUPPORTED, "submit 0 0 5").gives(1, "recount 0").gives(10, "export 0").gives(1, "check");
        x.showTheSame();
    }

    /** "IllegalStateException: the topic is closed", whatever the draft is. */
    private static void submitWhenClosed() {
        Twins x = twins("submit when closed").does(Scenes.DOZEN + "ring 7; topic 5; close 1; sign 0 0 0 1 0");
        x.refusesAll(STATE, "submit 0 1 0; submit 0 1 1; submit 1 1 0; submit 2 1 0").gives(1, "submit 0 0 0");
        x.does("close 0").refusesAll(STATE, "submit 0 0 0; submit 0 0 1; submit 2 0 0");
        x.refusesAll(ARGUMENT, "submit 3 0 0; submit -1 1 0; submit 0 2 0").gives(1, "count 0").gives(0, "count 1");
        x.showTheSame();
    }

    /** "UnsupportedOperationException: one with its tag is stored": the first, the last, or one between. */
    private static void submitOfStoredTag() {
        Twins x = twins("stored tags").does(Scenes.DOZEN + "topic 5; ring 3;" + Scenes.signatures(1, 7));
        for (int secret = 1; secret <= 7; secret++) {
            x.does(Scenes.signing(secret, -1)).refuses(UNSUPPORTED, Scenes.submission(secret, -1));
            x.refuses(ARGUMENT, Scenes.submission(secret, -2));
        }
        x.does("sign 2 0 1 2 3").refuses(UNSUPPORTED, "submit 2 0 3").gives(1, "submit 2 1 3").gives(7, "count 0");
        x.does("spoil 0 6 1 " + tagOfDozen(8) + ";" + Scenes.signing(8, 0)).refuses(UNSUPPORTED, "submit 1 0 0");
        x.does(Scenes.signing(7, 0)).gives(8, "submit 1 0 0").showTheSame();
    }

    /** "or there are 8". */
    private static void submitOfNinth() {
        Twins x = twins("a ninth").does(Scenes.DOZEN + "topic 5;" + Scenes.signatures(5, 11) + Scenes.signing(12, 12));
        x.gives(8, Scenes.submission(12, 12)).refuses(UNSUPPORTED, Scenes.submission(12, 12));
        for (int secret = 1; secret <= 6; secret++) {
            x.does(Scenes.signing(secret, 0)).refuses(UNSUPPORTED, "submit 0 0 0").refuses(ARGUMENT, "submit 0 0 1");
            x.gives(secret, "submit 0 1 0");
        }
        x.does("close 0").refusesAll(STATE, "submit 0 0 0; submit 0 0 1").gives(8, "count 0").gives(8, "recount 0");
        x.showTheSame();
    }

    // 11: how many, from none to eight; "there is none such"

    private static void countsUpToEight() {
        Twins x = twins("counts").refuses(ARGUMENT, "count 0").does(Scenes.DOZEN + "topic 5").gives(0, "count 0");
        for (int secret = 1; secret <= 8; secret++) {
            x.does(Scenes.signing(secret, 0)).gives(secret - 1, "count 0").does(Scenes.submission(secret, 0));
            x.gives(secret, "count 0").gives(0, "count 1");
        }
        x.refusesAll(ARGUMENT, "count 2; count -1; count MIN; count MAX").does("close 0").gives(8, "count 0");
        x.showTheSame();
    }

    // 12: "Whether a signature with the draft's tag is stored for a topic."

    private static void seenFromNoneToEight() {
        Twins x = twins("seen").refuses(ARGUMENT, "seen 0").does(Scenes.DOZEN + "topic 5").gives(0, "seen 0");
        for (int secret = 1; secret <= 8; secret++) {
            x.does(Scenes.signing(secret, 0)).gives(0, "seen 0").does(Scenes.submission(secret, 0)).gives(1, "seen 0");
            x.gives(0, "seen 1");
        }
        for (int secret = 1; secret <= 12; secret++) {
            x.does(Scenes.signing(secret, 1)).gives(secret <= 8 ? 1 : 0, "seen 0");
        }
        x.refusesAll(ARGUMENT, "seen 2; seen -1; seen MIN; seen MAX").showTheSame();
    }

    /** Only the tags count, as the ints that they are, whether they are good or not. */
    private static void seenOfEqualTagsAlone() {
        Twins x = twins("seen tags").does(Scenes.PAIR).gives(0, "seen 0").does("sign 0 0 0 1 5; submit 0 0 5");
        x.does("edit 0 -1; edit 2 MIN; edit 3 MAX").gives(1, "seen 0").does("edit 1 4047").gives(0, "seen 0");
        x.does("edit 1 -7").gives(0, "seen 0").does("edit 1 2021").gives(0, "seen 0").does("spoil 0 0 1 2021");
        x.gives(1, "seen 0").does("edit 1 2020").gives(0, "seen 0").does("edit 1 0").gives(0, "seen 0");
        x.does("spoil 0 0 1 0").gives(1, "seen 0").does("spoil 0 0 1 MIN; edit 1 MIN").gives(1, "seen 0");
        x.does("spoil 0 0 1 2020; edit 1 111").gives(0, "seen 0").does("edit 1 805").gives(0, "seen 0").showTheSame();
    }

    // 13: "how many there are, if all are good ...; otherwise -1 less the number (from 0) of the first ..."

    private static void recountOfNoneToEight() {
        Twins x = twins("recount").refuses(ARGUMENT, "recount 0").does(Scenes.DOZEN).gives(0, "recount 0");
        for (int secret = 1; secret <= 8; secret++) {
            x.does(Scenes.signing(secret, MIN)).does(Scenes.submission(secret, MIN)).gives(secret, "recount 0");
        }
        for (int k = 7; k >= 0; k--) {
            x.does("spoil 0 " + k + " 1 1").gives(-1 - k, "recount 0");
        }
        x.refusesAll(ARGUMENT, "recount 1; recount -1; recount MIN; recount MAX").gives(-1, "recount 0").showTheSame();
    }

    /** Each number of the first, the last and one between, spoiled and mended. */
    private static void recountTellsTheFirst() {
        for (int k : new int[] {0, 3, 7}) {
            Twins x = twins("recount of spoiled " + k).does(Scenes.DOZEN + Scenes.signatures(1, 8) + "export 0");
            int[] keys = k < 6 ? Chains.keys(1, 2, 3, 4, 5, 6) : Chains.keys(7, 8, 9, 10, 11, 12);
            int[] numbers = Chains.sign(keys, 5, k + 1, k % 6, k + 1);
            for (int i = 0; i < 8; i++) {
                for (int v : new int[] {numbers[i] + (i == 1 ? 2027 : 1013), numbers[i] ^ 1, -1, MIN, MAX}) {
                    x.does("spoil 0 " + k + " " + i + " " + v).gives(-1 - k, "recount 0");
                }
                x.does("spoil 0 " + k + " " + i + " " + numbers[i]).gives(8, "recount 0");
            }
            x.does("spoil 0 7 2 -1; spoil 0 " + k + " 7 1013").gives(-1 - k, "recount 0").does("close 0");
            x.gives(-1 - k, "recount 0").showTheSame();
        }
    }

    /** "or has the tag of one before it": two good ones of one member, which spoil() makes possible. */
    private static void recountOfEqualTags() {
        for (int first : new int[] {0, 3, 6}) {
            for (int last : new int[] {first + 1, 7}) {
                Twins x = twins("equal tags of " + first + " and " + last).does(Scenes.DOZEN);
                x.does(Scenes.signatures(1, last) + "spoil 0 " + first + " 1 4");
                x.does(Scenes.signing(first + 1, 99)).gives(last + 1, Scenes.submission(first + 1, 99));
                x.gives(-1 - first, "recount 0").does("spoil 0 " + first + " 1 " + tagOfDozen(first + 1));
                x.gives(-1 - last, "recount 0").gives(last + 1, "count 0").does("export 0").refuses(ARGUMENT, "check");
                x.does("spoil 0 " + last + " 2 -1").gives(-1 - last, "recount 0");
                x.does("spoil 0 " + first + " 7 -1").gives(-1 - first, "recount 0").showTheSame();
            }
        }
    }

    // 14: "no such signature, or number of it"; "becomes v"

    private static void spoilAtEachEdge() {
        Twins x = twins("spoil").does(Scenes.DOZEN + "ring 3; sign 2 0 0 1 0; submit 2 0 0");
        x.does(Scenes.signatures(6, 12));
        x.refusesAll(BOUNDS, "spoil 0 8 0 0; spoil 0 -1 0 0; spoil 0 MIN 0 0; spoil 0 MAX 0 0; spoil 0 8 8 0");
        x.refusesAll(BOUNDS, "spoil 0 0 4 0; spoil 0 0 7 0; spoil 0 0 -1 0; spoil 0 7 8 0; spoil 0 7 -1 0");
        x.refusesAll(BOUNDS, "spoil 0 7 MIN 0; spoil 0 7 MAX 0").gives(8, "recount 0");
        x.refusesAll(ARGUMENT, "spoil 1 0 0 0; spoil -1 0 0 0; spoil MIN 0 0 0; spoil MAX 0 0 0; spoil 1 8 8 0");
        x.refuses(ARGUMENT, "spoil -1 -1 -1 0").gives(8, "recount 0");
        x.does("spoil 0 0 0 MIN; spoil 0 0 3 MAX; spoil 0 7 0 -1; spoil 0 7 7 0; export 0");
        int last = 2 + 8 + 6 * 16;
        x.gives(MIN, "bundle 6").gives(MAX, "bundle 9");
        x.gives(-1, "bundle " + (last + 8)).gives(0, "bundle " + (last + 15));
        x.gives(-1, "recount 0").gives(8, "count 0").showTheSame();
    }

    private static void spoilOfNone() {
        Twins x = twins("spoil of none").refuses(ARGUMENT, "spoil 0 0 0 0").does(Scenes.PAIR + "sign 0 0 0 1 5");
        x.refusesAll(BOUNDS, "spoil 0 0 0 0; spoil 0 -1 0 0; spoil 0 0 -1 0").does("submit 0 0 5; spoil 0 0 0 0");
        x.refusesAll(BOUNDS, "spoil 0 1 0 0; spoil 0 0 4 0").gives(-1, "recount 0").gives(111, "draft 0").showTheSame();
    }

    /** Neither the draft nor the bundle is what is stored, though they were the same. */
    private static void spoilLeavesTheRest() {
        Twins x = twins("spoil and the rest").does(Scenes.PAIR + "topic 77; sign 0 0 0 1 5");
        x.gives(1, "submit 0 0 5").gives(1, "submit 0 1 5");
        x.does("export 0; spoil 0 0 0 9").gives(111, "draft 0").gives(111, "bundle 6").gives(1, "check");
        x.gives(-1, "recount 0").gives(1, "recount 1").does("edit 0 8; poke 6 7; export 1").gives(111, "bundle 6");
        x.does("export 0").gives(9, "bundle 6").refuses(ARGUMENT, "check").does("close 0; spoil 0 0 0 111");
        x.gives(1, "recount 0").gives(8, "draft 0").does("export 0").gives(1, "check").showTheSame();
    }

    // 15: "how many are stored"; "IllegalStateException: it is closed"

    private static void closeOnce() {
        Twins x = twins("close").refuses(ARGUMENT, "close 0").does(Scenes.DOZEN + "topic 1; topic 2; topic 3; topic 4;"
                + "topic 5;" + Scenes.signatures(1, 8) + "sign 0 5 0 1 0; submit 0 5 0");
        x.refusesAll(ARGUMENT, "close 6; close -1; close MIN; close MAX").gives(1, "close 5").gives(8, "close 0");
        x.refusesAll(STATE, "close 0; close 5").gives(0, "close 2").gives(0, "count 2");
        x.refusesAll(STATE, "topic 6; close 2").showTheSame();
    }

    // 16: "how many ints"

    private static void exportOfEachSize() {
        Twins x = twins("exports").refuses(ARGUMENT, "export 0").does(Scenes.members(6) + "ring 3; ring 7; ring 15;"
                + "ring 31; ring 63; topic MIN").gives(2, "export 0").gives(MIN, "bundle 0").gives(0, "bundle 1");
        int ints = 2;
        for (int r = 0; r < 5; r++) {
            int n = r + 2;
            ints += 2 * n + 4;
            x.does("sign " + r + " 0 " + (n - 1) + " " + n + " 0; submit " + r + " 0 0").gives(ints, "export 0");
            x.gives(r + 1, "check").gives(r + 1, "bundle 1").refuses(BOUNDS, "bundle " + ints);
        }
        x.refusesAll(ARGUMENT, "export 1; export -1; export MIN; export MAX").gives(5, "check").showTheSame();
        twins("the greatest export").does(Scenes.DOZEN + Scenes.signatures(5, 12)).gives(130, "export 0")
                .gives(8, "check").refuses(BOUNDS, "bundle 130").showTheSame();
    }

    private static void exportReplacesTheBundle() {
        Twins x = twins("export over a full bundle").does(Scenes.PAIR + Scenes.zeros(0, 200)).gives(2, "export 0");
        x.gives(0, "check").refusesAll(BOUNDS, "bundle 2; bundle 199; poke 3 0").refuses(ARGUMENT, "cut 3");
        x.showTheSame();
    }

    // 17, 18 and 19: "it has none"; "when it is the first behind the last one"; "n is below 0, or it has fewer"

    private static void bundleFromFirstToLast() {
        Twins x = twins("bundle").refusesAll(BOUNDS, "bundle 0; bundle -1").does(Scenes.PAIR + "export 0");
        x.gives(77, "bundle 0").gives(0, "bundle 1").refusesAll(BOUNDS, "bundle 2; bundle -1; bundle MIN; bundle MAX");
        x.does("cut 1").gives(77, "bundle 0").refuses(BOUNDS, "bundle 1").does("cut 0").refuses(BOUNDS, "bundle 0");
        x.showTheSame();
    }

    private static void pokeFromFirstToBehindLast() {
        Twins x = twins("poke").refusesAll(BOUNDS, "poke 1 0; poke -1 0; poke MIN 0; poke MAX 0").does("poke 0 MIN");
        x.gives(MIN, "bundle 0").refusesAll(BOUNDS, "bundle 1; poke 2 0").does("poke 1 MAX; poke 0 -1");
        x.gives(-1, "bundle 0").gives(MAX, "bundle 1").refusesAll(BOUNDS, "bundle 2; poke 3 0; poke -1 0; poke 200 0");
        x.does("poke 2 7; cut 1").refuses(BOUNDS, "poke 2 0").does("poke 1 0").refuses(BOUNDS, "bundle 2");
        x.gives(0, "check").does("cut 0; poke 0 5").refuses(BOUNDS, "bundle 1").showTheSame();
    }

    private static void cutFromNoneToAll() {
        Twins x = twins("cut").refusesAll(ARGUMENT, "cut 1; cut -1; cut MIN; cut MAX").does("cut 0");
        x.does(Scenes.PAIR + "sign 0 0 0 1 5; submit 0 0 5; export 0; cut 10").gives(137, "bundle 9");
        x.refusesAll(ARGUMENT, "cut 11; cut -1; cut MIN; cut MAX; cut 200").gives(1, "check").does("cut 9");
        x.refuses(BOUNDS, "bundle 9").gives(805, "bundle 8").refusesAll(ARGUMENT, "cut 10; check").does("cut 1");
        x.gives(77, "bundle 0").refuses(BOUNDS, "bundle 1").does("cut 0").refuses(BOUNDS, "bundle 0");
        x.refuses(ARGUMENT, "cut 1").gives(1, "count 0").showTheSame();
    }

    // 20: "how many signatures it has, if it is as a topic's is"

    private static List<Integer> head(int value, int signatures) {
        return new ArrayList<>(List.of(value, signatures));
    }

    /** Of the first secret's signatures, each in a ring with the secret 1000 beside it. */
    private static List<Integer> bundleOfPairs(int value, int told, int... secrets) {
        List<Integer> ints = head(value, told);
        for (int k = 0; k < secrets.length; k++) {
            int[] keys = Chains.keys(secrets[k], 1000 + k);
            ints.addAll(Reference.bundled(keys, -k, Chains.sign(keys, value, -k, 0, secrets[k])));
        }
        return ints;
    }

    private static List<Integer> bundleOfRing(int value, int[] keys, int motion, int place, int secret) {
        List<Integer> ints = head(value, 1);
        ints.addAll(Reference.bundled(keys, motion, Chains.sign(keys, value, motion, place, secret)));
        return ints;
    }

    private static Twins holding(String name, List<Integer> ints) {
        return twins(name).does(Scenes.pokes(ints));
    }

    private static void checkOfNoInts() {
        Twins x = twins("check of no ints").refuses(ARGUMENT, "check").does("poke 0 0").refuses(ARGUMENT, "check");
        x.does("poke 1 0").gives(0, "check").does("poke 0 MIN").gives(0, "check").does("cut 1");
        x.refuses(ARGUMENT, "check").does("cut 0").refuses(ARGUMENT, "check").showTheSame();
    }

    private static void checkOfNoneToEight() {
        int[] secrets = {1, 2, 3, 4, 5, 6, 7, 8};
        for (int n = 0; n <= 8; n++) {
            List<Integer> ints = bundleOfPairs(MAX, n, Arrays.copyOf(secrets, n));
            holding("check of " + n, ints).gives(n, "check").showTheSame();
        }
    }

    /** "at most 8 signatures". */
    private static void checkOfNine() {
        Twins x = holding("check of nine", bundleOfPairs(9, 9, 1, 2, 3, 4, 5, 6, 7, 8, 9)).refuses(ARGUMENT, "check");
        for (int told : new int[] {8, 7, 10, 1, 0, -1, -9, MIN, MAX}) {
            x.does("poke 1 " + told).refuses(ARGUMENT, "check");
        }
        x.does("poke 1 9; cut 66").refuses(ARGUMENT, "check").does("poke 1 8").gives(8, "check").showTheSame();
    }

    private static void checkOfCountsThatAreNone() {
        for (int told : new int[] {-1, -2, 1, 8, 9, 200, MIN, MIN + 1, MAX, 1 << 30}) {
            holding("check of " + told + " told, none there", head(5, told)).refuses(ARGUMENT, "check").showTheSame();
        }
        Twins x = holding("check of one there", bundleOfPairs(5, 1, 3)).gives(1, "check");
        for (int told : new int[] {0, 2, -1, 8, 9, MIN, MIN + 1, MAX}) {
            x.does("poke 1 " + told).refuses(ARGUMENT, "check");
        }
        x.showTheSame();
    }

    /** "rings of 2 to 6": what a ring of another size signs comes back as well. */
    private static void checkOfRingsOfOneAndSeven() {
        for (int n = 1; n <= 8; n++) {
            int[] secrets = new int[n];
            for (int i = 0; i < n; i++) {
                secrets[i] = 1012 - 7 * i;
            }
            List<Integer> ints = bundleOfRing(9, Chains.keys(secrets), 1, n - 1, secrets[n - 1]);
            Twins x = holding("check of a ring of " + n, ints);
            if (n >= 2 && n <= 6) {
                x.gives(1, "check");
            } else {
                x.refuses(ARGUMENT, "check");
            }
            x.showTheSame();
        }
        holding("check of a ring of none", List.of(9, 1, 0, 5, 6, 124)).refuses(ARGUMENT, "check").showTheSame();
    }

    /** Sizes of rings by which the places of the ints behind them would wrap, or lie far off. */
    private static void checkOfSizesThatWrap() {
        Twins x = holding("check of sizes", bundleOfPairs(9, 1, 7)).gives(1, "check");
        int[] sizes = {0, 1, 3, 6, 7, -1, -2, -4, 98, 196, 200, 1 << 30, 3 << 30, MAX, MAX - 1, MIN, MIN + 2, MIN + 3};
        for (int n : sizes) {
            x.does("poke 2 " + n).refuses(ARGUMENT, "check");
        }
        x.does("poke 2 2").gives(1, "check").showTheSame();
    }

    /** "different keys". */
    private static void checkOfEqualKeys() {
        holding("two equal keys", bundleOfRing(9, new int[] {4, 4}, 0, 0, 1)).refuses(ARGUMENT, "check").showTheSame();
        for (int first = 0; first < 6; first++) {
            for (int last = first + 1; last < 6; last++) {
                int[] keys = Chains.keys(1, 2, 3, 4, 5, 6);
                keys[last] = keys[first];
                Twins x = holding("equal keys " + first + " and " + last, bundleOfRing(9, keys, 0, first, first + 1));
                x.refuses(ARGUMENT, "check").showTheSame();
            }
        }
    }

    /** "in any order". */
    private static void checkInAnyOrder() {
        int[][] orders = {{3, 64, 2025}, {2025, 64, 3}, {64, 2025, 3}, {64, 3, 2025}};
        for (int[] keys : orders) {
            for (int place = 0; place < 3; place++) {
                List<Integer> ints = bundleOfRing(MIN, keys, MIN, place, Chains.secret(keys[place]));
                holding("check in any order", ints).gives(1, "check").showTheSame();
            }
        }
    }

    /** "of different tags": the same member in other rings, as the first and the last, or one behind the other. */
    private static void checkOfEqualTags() {
        int[] secrets = {1, 2, 3, 4, 5, 6, 7, 8};
        for (int first : new int[] {0, 3, 6}) {
            for (int last : new int[] {first + 1, 7}) {
                int[] twice = secrets.clone();
                twice[last] = twice[first];
                Twins x = holding("check of tags " + first + " and " + last, bundleOfPairs(9, 8, twice));
                x.refuses(ARGUMENT, "check").showTheSame();
            }
        }
        holding("check of different tags", bundleOfPairs(9, 8, secrets)).gives(8, "check").showTheSame();
    }

    /** "all good": the first, the last and one between are not. */
    private static void checkOfOneThatIsNotGood() {
        List<Integer> ints = bundleOfPairs(9, 8, 1, 2, 3, 4, 5, 6, 7, 8);
        for (int k : new int[] {0, 4, 7}) {
            Twins x = holding("check of spoiled " + k, ints);
            for (int i = 2 + 8 * k; i < 2 + 8 * k + 8; i++) {
                x.does("poke " + i + " " + (ints.get(i) ^ 1)).refuses(ARGUMENT, "check");
                x.does("poke " + i + " " + (ints.get(i) + 1013)).refuses(ARGUMENT, "check");
                x.does("poke " + i + " " + (ints.get(i) + 2027)).refuses(ARGUMENT, "check");
                x.does("poke " + i + " " + ints.get(i)).gives(8, "check");
            }
            x.does("poke 0 8").refuses(ARGUMENT, "check").does("poke 0 9").gives(8, "check").showTheSame();
        }
    }

    /** "and nothing behind them": one more, a whole signature more, or all the room. */
    private static void checkOfIntsBehind() {
        Twins x = holding("check of ints behind", bundleOfPairs(9, 2, 1, 2, 3));
        x.refuses(ARGUMENT, "check").does("cut 19").refuses(ARGUMENT, "check").does("cut 18").gives(2, "check");
        x.does("poke 18 2").refuses(ARGUMENT, "check").does("cut 18").gives(2, "check").showTheSame();
        Twins full = twins("check of 200").does(Scenes.DOZEN + Scenes.signatures(1, 8) + "export 0").gives(8, "check");
        full.does(Scenes.zeros(130, 131)).refuses(ARGUMENT, "check");
        full.does(Scenes.zeros(131, 200)).refuses(ARGUMENT, "check");
        full.does("cut 131").refuses(ARGUMENT, "check").does("cut 130").gives(8, "check").does("cut 129");
        full.refuses(ARGUMENT, "check").does("cut 0").showTheSame();
    }

    /** A bundle that ends too early, though the ints that were cut off are the right ones. */
    private static void checkOfIntsThatLack() {
        Twins x = holding("check of ints that lack", bundleOfPairs(9, 2, 1, 2));
        for (int n = 17; n >= 0; n--) {
            x.does("cut " + n).refuses(ARGUMENT, "check");
        }
        List<Integer> ints = bundleOfPairs(9, 2, 1, 2);
        for (int i = 0; i < ints.size(); i++) {
            x.refuses(ARGUMENT, "check").does("poke " + i + " " + ints.get(i));
        }
        x.gives(2, "check").showTheSame();
    }

    /** "(Members, rings and topics that there are do not matter.)" */
    private static void checkNeedsNothingElse() {
        List<Integer> ints = bundleOfPairs(77, 2, 500, 501);
        Twins none = holding("check without members", ints).gives(2, "check");
        none.refuses(ARGUMENT, "count 0").gives(0, "member 4").showTheSame();
        Twins x = twins("check beside others").does(Scenes.PAIR + "sign 0 0 0 1 5; submit 0 0 5");
        x.does("spoil 0 0 0 -1; close 0").does(Scenes.pokes(ints)).gives(2, "check").gives(1, "count 0");
        x.gives(-1, "recount 0").gives(111, "draft 0");
        x.does("export 0").refuses(ARGUMENT, "check").does("poke 6 111").gives(1, "check").gives(-1, "recount 0");
        x.showTheSame();
    }
}
