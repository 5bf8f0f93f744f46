/** The program and the reference, given the same calls; a call that the program alone is given must leave no trace. */
final class Twins {
    private static final int MOST_CALLS = 512;

    private final Due due;
    private final String name;
    private final RingPetition program = new RingPetition();
    private final Reference reference = new Reference();
    private int calls = 0;

    Twins(Due due, String name) {
        this.due = due;
        this.name = name;
    }

    /** Gives both a row of calls, with semicolons between them; they must answer alike. */
    Twins does(String row) {
        for (String call : row.split(";")) {
            if (!call.isBlank()) {
                gives(Calls.answer(reference, call), call, program);
            }
        }
        return this;
    }

    /** Gives both a call; this must be the answer. */
    Twins gives(long want, String call) {
        gives(String.valueOf(want), call, reference);
        gives(String.valueOf(want), call, program);
        return this;
    }

    /** Gives the program alone a call, which must throw this. */
    Twins refuses(Class<? extends RuntimeException> want, String call) {
        gives(want.getSimpleName(), call, program);
        return this;
    }

    /** A row of calls that must all throw this. */
    Twins refusesAll(Class<? extends RuntimeException> want, String row) {
        for (String call : row.split(";")) {
            refuses(want, call);
        }
        return this;
    }

    int callsMade() {
        return calls;
    }

    int[] drafted() {
        return reference.draft.clone();
    }

    /** Compares all that the face shows; this ends the twins' life, as it closes and signs. */
    void showTheSame() {
        showDraft();
        showBundle();
        showTopics();
        showRings();
        showWhatTopicsTake();
        showWhatIsNext();
        due.is(name + ": the test makes " + calls + " calls, so no more than 512", calls <= MOST_CALLS, true);
    }

    private void gives(String want, String call, Object one) {
        if (one == program) {
            calls++;
        }
        String who = one == program ? "" : " by the reference";
        due.same(name + ": " + call.trim() + who, Calls.answer(one, call), want);
    }

    private void showDraft() {
        for (int i = 0; i <= reference.draft.length; i++) {
            does("draft " + i);
        }
    }

    private void showBundle() {
        does("check");
        for (int i = 0; i <= reference.bundle.size(); i++) {
            does("bundle " + i);
        }
    }

    private void showTopics() {
        for (int t = 0; t <= reference.topics.size(); t++) {
            does("base " + t + "; count " + t + "; seen " + t + "; recount " + t);
        }
        for (int t = 0; t < reference.topics.size(); t++) {
            does("export " + t);
            showBundle();
        }
    }

    /** The draft that is signed at place 0 tells all the keys of the ring, as the challenges rest on them. */
    private void showRings() {
        if (reference.topics.isEmpty()) {
            does("topic 9");
        }
        does("ring 3; ring 63; ring 4032; ring " + (3 << Math.max(0, reference.members.size() - 2)));
        for (int r = 0; r < reference.rings.size(); r++) {
            int last = reference.rings.get(r).length - 1;
            does(signing(r, 0, last));
            does(signing(r, 0, 0));
            showDraft();
        }
        does("sign " + reference.rings.size() + " 0 0 1 9");
    }

    private void showWhatTopicsTake() {
        for (int t = 0; t < reference.topics.size(); t++) {
            for (int r = 0; r < Math.min(2, reference.rings.size()); r++) {
                does(signing(r, t, 0) + "; submit " + r + " " + t + " 9; seen " + t);
            }
            does("close " + t + "; close " + t);
        }
    }

    private void showWhatIsNext() {
        for (int key : reference.members.toArray(new Integer[0])) {
            does("member " + key);
        }
        does("member 2025; member 3; topic 0; key 1");
    }

    private String signing(int ring, int topic, int place) {
        int secret = Chains.secret(reference.rings.get(ring)[place]);
        return "sign " + ring + " " + topic + " " + place + " " + secret + " 9";
    }
}
