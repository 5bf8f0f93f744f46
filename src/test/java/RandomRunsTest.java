import java.util.ArrayList;
import java.util.Arrays;
import java.util.List;
import java.util.Map;
import java.util.Random;
import java.util.TreeMap;

/** Runs of 512 random calls, each answered by the program and by the reference; the seed is fixed. */
public final class RandomRunsTest {
    private static final int RUNS = 300;
    private static final int CALLS = 512;
    private static final int[] ODD = {0, 1, -1, 2, 1012, 1013, 2026, 2027, Integer.MIN_VALUE, Integer.MAX_VALUE};

    /** Every way in which a call may end; each must come often enough for the runs to mean something. */
    private static final String[] ENDS = {
        "member", "member IllegalArgumentException", "member IllegalStateException",
        "key", "key IllegalArgumentException",
        "ring", "ring IllegalArgumentException", "ring IllegalStateException",
        "topic", "topic IllegalStateException",
        "base", "base IllegalArgumentException",
        "sign", "sign IllegalArgumentException",
        "draft", "draft IndexOutOfBoundsException",
        "edit", "edit IndexOutOfBoundsException",
        "submit", "submit IllegalArgumentException", "submit IllegalStateException",
        "submit UnsupportedOperationException",
        "count", "count IllegalArgumentException",
        "seen 0", "seen 1", "seen IllegalArgumentException",
        "recount", "recount -", "recount IllegalArgumentException",
        "spoil", "spoil IllegalArgumentException", "spoil IndexOutOfBoundsException",
        "close", "close IllegalArgumentException", "close IllegalStateException",
        "export", "export IllegalArgumentException",
        "bundle", "bundle IndexOutOfBoundsException",
        "poke", "poke IndexOutOfBoundsException",
        "cut", "cut IllegalArgumentException",
        "check", "check IllegalArgumentException"};

    private final Due due;
    private final Random random;
    private final Map<String, Integer> ends;
    private final RingPetition program = new RingPetition();
    private final Reference reference = new Reference();
    private final String name;
    private int calls = 0;
    private int lastRing = 0;
    private int lastTopic = 0;
    private int lastMotion = 0;

    private RandomRunsTest(Due due, long seed, Map<String, Integer> ends) {
        this.due = due;
        this.random = new Random(seed);
        this.ends = ends;
        this.name = "run " + seed + ", call ";
    }

    public static void main(String[] args) {
        Due due = new Due();
        Map<String, Integer> ends = new TreeMap<>();
        for (int run = 0; run < RUNS; run++) {
            new RandomRunsTest(due, run, ends).run();
        }
        for (String end : ENDS) {
            due.is("calls that end as '" + end + "' are 30 or more", ends.getOrDefault(end, 0) >= 30, true);
        }
        due.finish("RandomRunsTest");
    }

    private void run() {
        for (int i = 2 + random.nextInt(11); i > 0; i--) {
            newMember();
        }
        call("ring", 3);
        for (int i = random.nextInt(10); i > 0; i--) {
            call("ring", someChoice());
        }
        for (int i = 1 + random.nextInt(6); i > 0; i--) {
            call("topic", oddOr(random.nextInt(100)));
        }
        while (calls < CALLS) {
            if (random.nextInt(60) == 0) {
                foreignBundle();
            } else {
                anyCall();
            }
        }
    }

    private void anyCall() {
        switch (random.nextInt(24)) {
            case 0 -> oneOfMany();
            case 1 -> call("key", oddOr(random.nextInt(1015)));
            case 2 -> call("base", someTopic());
            case 3, 4, 5, 6, 7, 8 -> signWell();
            case 9 -> call("sign", someRing(), someTopic(), random.nextInt(7) - 1, someSecret(), someMotion());
            case 10 -> call("draft", random.nextInt(10) - 1);
            case 11 -> editDraft();
            case 12 -> call("submit", someRing(), someTopic(), someMotion());
            case 13 -> call("submit", lastRing, lastTopic, lastMotion);
            case 14 -> call("count", someTopic());
            case 15 -> call("seen", someTopic());
            case 16, 17 -> call("recount", someTopic());
            case 18 -> spoilStored();
            case 19 -> exportAndCheck();
            case 20 -> call("bundle", random.nextInt(reference.bundle.size() + 2) - 1);
            case 21 -> pokeBundle();
            case 22 -> cutBundle();
            default -> call("check");
        }
    }

    /** The calls that are refused for good once there are enough, or that end a topic. */
    private void oneOfMany() {
        switch (random.nextInt(7)) {
            case 0 -> newMember();
            case 1 -> call("member", oddOr(random.nextInt(2030)));
            case 2, 3 -> call("ring", someChoice());
            case 4 -> call("ring", odd());
            case 5 -> call("topic", oddOr(random.nextInt()));
            default -> call("close", someTopic());
        }
    }

    private void newMember() {
        call("member", reference.key(1 + random.nextInt(random.nextBoolean() ? 15 : 1012)));
    }

    /** Signs as a member should, and most often submits. */
    private void signWell() {
        lastRing = random.nextInt(reference.rings.size());
        lastTopic = random.nextInt(reference.topics.size());
        lastMotion = someMotion();
        int[] keys = reference.rings.get(lastRing);
        int place = random.nextInt(keys.length);
        call("sign", lastRing, lastTopic, place, Chains.secret(keys[place]), lastMotion);
        if (random.nextInt(4) != 0) {
            call("submit", lastRing, lastTopic, lastMotion);
        }
    }

    private void editDraft() {
        int i = random.nextInt(reference.draft.length + 2) - 1;
        boolean within = i >= 0 && i < reference.draft.length;
        call("edit", i, within ? near(reference.draft[i]) : 5);
    }

    /** Spoils a number, and half of the times mends it behind a recount. */
    private void spoilStored() {
        int topic = someTopic();
        int k = random.nextInt(9) - 1;
        int i = random.nextInt(10) - 1;
        boolean there = topic >= 0 && topic < reference.topics.size()
                && k >= 0 && k < reference.topics.get(topic).stored.size()
                && i >= 0 && i < reference.topics.get(topic).stored.get(k).numbers.length;
        if (!there) {
            call("spoil", topic, k, i, 0);
            return;
        }
        int whole = reference.topics.get(topic).stored.get(k).numbers[i];
        call("spoil", topic, k, i, near(whole));
        call("recount", topic);
        if (random.nextBoolean()) {
            call("spoil", topic, k, i, whole);
        }
    }

    private void exportAndCheck() {
        call("export", someTopic());
        call("check");
    }

    private void pokeBundle() {
        int i = random.nextInt(reference.bundle.size() + 3) - 1;
        boolean within = i >= 0 && i < reference.bundle.size();
        int whole = within ? reference.bundle.get(i) : 0;
        call("poke", i, near(whole));
        call("check");
        if (within && random.nextBoolean()) {
            call("poke", i, whole);
        }
    }

    private void cutBundle() {
        call("cut", random.nextInt(reference.bundle.size() + 3) - 1);
        call("check");
    }

    /** A bundle of rings whose keys nobody here has, at times with a fault. */
    private void foreignBundle() {
        int signatures = 1 + random.nextInt(3);
        int value = oddOr(random.nextInt());
        List<Integer> ints = new ArrayList<>(List.of(value, signatures));
        for (int k = 0; k < signatures; k++) {
            int[] foreign = new int[1 + random.nextInt(7)];
            for (int i = 0; i < foreign.length; i++) {
                foreign[i] = 1 + random.nextInt(random.nextInt(4) == 0 ? 8 : 1012);
            }
            int place = random.nextInt(foreign.length);
            int[] keys = Chains.keys(foreign);
            int motion = someMotion();
            ints.addAll(Reference.bundled(keys, motion, Chains.sign(keys, value, motion, place, foreign[place])));
        }
        call("cut", 0);
        for (int i = 0; i < ints.size(); i++) {
            call("poke", i, ints.get(i));
        }
        call("check");
    }

    private int someChoice() {
        return random.nextInt(1 << reference.members.size() + random.nextInt(2)) & random.nextInt();
    }

    private int someRing() {
        return random.nextInt(8) == 0 ? odd() : random.nextInt(reference.rings.size() + 1);
    }

    private int someTopic() {
        return random.nextInt(8) == 0 ? odd() : random.nextInt(reference.topics.size() + 1);
    }

    private int someSecret() {
        int member = random.nextInt(reference.members.size());
        return random.nextInt(4) == 0 ? odd() : Chains.secret(reference.members.get(member));
    }

    private int someMotion() {
        return oddOr(random.nextInt(4));
    }

    private int odd() {
        return ODD[random.nextInt(ODD.length)];
    }

    private int oddOr(int x) {
        return random.nextInt(5) == 0 ? odd() : x;
    }

    /** A number that is no better than x, or x itself. */
    private int near(int x) {
        int[] all = {x, x + 1, x - 1, x + 1013, x - 1013, x + 2027, x - 2027, random.nextInt(1013), odd()};
        return all[random.nextInt(all.length)];
    }

    private void call(String method, int... args) {
        if (calls == CALLS) {
            return;
        }
        calls++;
        String want = Calls.answer(reference, method, args);
        String got = Calls.answer(program, method, args);
        due.same(name + calls + ": " + method + Arrays.toString(args), got, want);
        ends.merge(method + endOf(method, want), 1, Integer::sum);
    }

    private static String endOf(String method, String answer) {
        if (answer.endsWith("Exception") || method.equals("seen")) {
            return " " + answer;
        }
        return method.equals("recount") && answer.startsWith("-") ? " -" : "";
    }
}
