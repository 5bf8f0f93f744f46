/** A refused call throws what the document names, and changes nothing that later calls show. */
public final class RefusalTest {
    private static final Class<IllegalArgumentException> ARGUMENT = IllegalArgumentException.class;
    private static final Class<IllegalStateException> STATE = IllegalStateException.class;
    private static final Class<IndexOutOfBoundsException> BOUNDS = IndexOutOfBoundsException.class;
    private static final Class<UnsupportedOperationException> UNSUPPORTED = UnsupportedOperationException.class;

    /** Three members, two rings, topic 0 with two signatures, topic 1 closed, topic 2 empty; ring 1's draft. */
    private static final String BUSY = "member 4; member 16; member 64; ring 3; ring 7; topic 77; topic MIN; topic 77;"
            + "sign 0 0 0 1 5; submit 0 0 5; sign 1 0 1 2 6; submit 1 0 6; sign 0 1 1 2 -7; submit 0 1 -7; close 1;"
            + "export 0; sign 1 0 2 3 8";

    /** All that there may be: members, rings, topics, and signatures for topic 0; topic 1 is closed with one. */
    private static final String FULL = allThereMayBe();

    /** A bundle of 200 ints. */
    private static final String HEAVY = "member 4; member 16; ring 3; topic 77; sign 0 0 0 1 5; submit 0 0 5; export 0;"
            + Scenes.zeros(10, 200);

    private final Due due = new Due();

    public static void main(String[] args) {
        RefusalTest test = new RefusalTest();
        test.newObject();
        test.numbersOfBusy();
        test.signaturesOfBusy();
        test.bundleOfBusy();
        test.full();
        test.heavy();
        test.closedWhenFull();
        test.due.finish("RefusalTest");
    }

    private static String allThereMayBe() {
        StringBuilder row = new StringBuilder(Scenes.members(12));
        for (int ring = 0; ring < 8; ring++) {
            row.append("ring ").append(3 << ring).append(';');
        }
        for (int topic = 0; topic < 6; topic++) {
            row.append("topic ").append(topic).append(';');
        }
        for (int k = 0; k < 8; k++) {
            row.append("sign ").append(k).append(" 0 0 ").append(k + 1).append(" MAX; submit ").append(k)
                    .append(" 0 MAX;");
        }
        row.append("sign 0 1 0 1 2; submit 0 1 2; close 1; export 1;");
        return row.toString();
    }

    /** Each call of the row by itself, and twice, behind the calls of the scene. */
    private void refusesEach(Class<? extends RuntimeException> want, String name, String scene, String row) {
        for (String call : row.split(";")) {
            Twins twins = new Twins(due, name + ", refused" + call);
            twins.does(scene).refuses(want, call).refuses(want, call).showTheSame();
        }
    }

    private void newObject() {
        refusesEach(ARGUMENT, "new", "", " member 1; member 0; member 2; member 2027; member -1; key 0; key 1013;"
                + " ring 0; ring 1; ring 3; ring -1; base 0; base -1; sign 0 0 0 1 0; sign -1 -1 -1 1 0; submit 0 0 0;"
                + " count 0; seen 0; recount 0; spoil 0 0 0 0; close 0; export 0; cut 1; cut -1; check");
        refusesEach(BOUNDS, "new", "", " draft 2; draft -1; edit 2 0; edit -1 0; bundle 0; bundle -1; poke 1 0;"
                + " poke -1 0; poke 200 0");
    }

    private void numbersOfBusy() {
        refusesEach(ARGUMENT, "busy", BUSY, " member 4; member 16; member 64; member 1; member 0; member 2;"
                + " member 2026; member 2027; member 2031; member -2023; member MIN; member MAX");
        refusesEach(ARGUMENT, "busy", BUSY, " key 0; key -1; key 1013; key MIN; key MAX");
        refusesEach(ARGUMENT, "busy", BUSY, " ring 0; ring 1; ring 4; ring 8; ring 9; ring 11; ring 15; ring 4096;"
                + " ring -1; ring MIN; ring -2147483645; ring MAX");
        for (String call : new String[] {"base", "count", "seen", "recount", "close", "export"}) {
            for (String topic : new String[] {"3", "-1", "6", "MIN", "MAX"}) {
                refusesEach(ARGUMENT, "busy", BUSY, " " + call + " " + topic);
            }
        }
        refusesEach(STATE, "busy", BUSY, " close 1");
    }

    private void signaturesOfBusy() {
        refusesEach(ARGUMENT, "busy", BUSY, " sign 2 0 0 1 0; sign -1 0 0 1 0; sign MIN 0 0 1 0; sign MAX 0 0 1 0;"
                + " sign 0 3 0 1 0; sign 0 -1 0 1 0; sign 0 MIN 0 1 0; sign 0 MAX 0 1 0; sign 0 0 2 3 0;"
                + " sign 0 0 2 2 0; sign 0 0 -1 1 0; sign 0 0 MIN 1 0; sign 0 0 MAX 2 0; sign 1 0 3 3 0;"
                + " sign 0 0 0 2 0; sign 0 0 1 1 0;"
                + " sign 0 0 0 0 0; sign 0 0 0 1014 0; sign 0 0 0 -1012 0; sign 0 0 0 1013 0; sign 0 0 0 MIN 0;"
                + " sign 0 0 0 MAX 0; submit 0 0 8; submit 1 2 7; submit 1 0 9; submit 2 0 8; submit -1 0 8;"
                + " submit 1 3 8; submit 1 -1 8; submit MIN 0 8; submit 1 MAX 8; submit 2 1 8; spoil 3 0 0 0;"
                + " spoil -1 0 0 0; spoil MIN 0 0 0; spoil MAX 0 0 0");
        refusesEach(STATE, "busy", BUSY, " submit 0 1 8; submit 1 1 8");
        refusesEach(UNSUPPORTED, "busy", BUSY + "; sign 1 0 1 2 9", " submit 1 0 9");
        refusesEach(BOUNDS, "busy", BUSY, " draft 5; draft -1; draft 7; draft MIN; draft MAX; edit 5 1; edit -1 1;"
                + " edit 7 1; edit MIN 1; edit MAX 1; spoil 0 2 0 1; spoil 0 -1 0 1; spoil 0 MIN 0 1; spoil 0 MAX 0 1;"
                + " spoil 0 0 4 1; spoil 0 1 5 1; spoil 0 0 -1 1; spoil 0 0 MIN 1; spoil 0 0 MAX 1; spoil 2 0 0 1;"
                + " spoil 1 1 0 1");
    }

    private void bundleOfBusy() {
        String bad = BUSY + "; poke 5 9";
        refusesEach(BOUNDS, "busy", BUSY, " bundle 20; bundle -1; bundle 199; bundle 200; bundle MIN; bundle MAX;"
                + " poke 21 1; poke -1 1; poke 199 1; poke 200 1; poke MIN 1; poke MAX 1");
        refusesEach(ARGUMENT, "busy", BUSY, " cut 21; cut -1; cut 200; cut 201; cut MIN; cut MAX");
        refusesEach(ARGUMENT, "busy with a bad bundle", bad, " check");
        refusesEach(ARGUMENT, "busy with a cut bundle", BUSY + "; cut 19", " check; cut 20");
        refusesEach(BOUNDS, "busy with a cut bundle", BUSY + "; cut 19", " bundle 19; poke 20 1");
    }

    private void full() {
        refusesEach(STATE, "full", FULL, " member 2025; member 3; ring 3; ring 63; ring 3072; topic 0; topic 9;"
                + " topic MIN; submit 0 1 2; close 1");
        refusesEach(UNSUPPORTED, "full", FULL + "; sign 7 0 1 9 3", " submit 7 0 3");
        refusesEach(UNSUPPORTED, "full", FULL + "; sign 7 0 0 8 3", " submit 7 0 3");
        refusesEach(ARGUMENT, "full", FULL, " member 1; member 5; ring 1; ring 127; ring 4095; ring 4097; ring MIN;"
                + " sign 8 0 0 1 0; sign 0 6 0 1 0; submit 0 0 2; submit 8 0 2; submit 0 6 2; base 6; count 6; seen 6;"
                + " recount 6; spoil 6 0 0 0; close 6; export 6; cut 11");
        refusesEach(BOUNDS, "full", FULL, " spoil 0 8 0 0; spoil 0 7 4 0; spoil 1 1 0 0; draft 4; edit 4 0");
    }

    private void heavy() {
        refusesEach(BOUNDS, "heavy", HEAVY, " poke 200 1; poke 201 1; poke -1 1; poke MIN 1; poke MAX 1; bundle 200;"
                + " bundle -1; bundle MIN; bundle MAX");
        refusesEach(ARGUMENT, "heavy", HEAVY, " cut 201; cut -1; cut MIN; cut MAX; check; export 1");
    }

    private void closedWhenFull() {
        String closed = FULL + "; close 0; sign 7 0 1 9 3";
        refusesEach(STATE, "full and closed", closed, " submit 7 0 3; submit 7 0 4; submit 0 0 3; close 0");
        refusesEach(ARGUMENT, "full and closed", closed, " submit 8 0 3; submit -1 0 3");
    }
}
