import java.util.List;

/** Rows of calls that several tests begin with, written as Twins take them. */
final class Scenes {
    /** Members with the secrets 1 and 2 in ring 0, and topic 77. */
    static final String PAIR = "member 4; member 16; ring 3; topic 77;";

    /** Twelve members with the secrets 1 .. 12, six in ring 0 and six in ring 1, and topic 5. */
    static final String DOZEN = members(12) + "ring 63; ring 4032; topic 5;";

    private Scenes() {
    }

    /** Members with the secrets 1 .. n. */
    static String members(int n) {
        StringBuilder row = new StringBuilder();
        for (int secret = 1; secret <= n; secret++) {
            row.append("member ").append(Chains.power(Chains.G, secret)).append(';');
        }
        return row.toString();
    }

    /** One of the dozen signs for topic 0, but doesn't submit. */
    static String signing(int secret, int motion) {
        return "sign " + (secret - 1) / 6 + " 0 " + (secret - 1) % 6 + " " + secret + " " + motion;
    }

    static String submission(int secret, int motion) {
        return "submit " + (secret - 1) / 6 + " 0 " + motion;
    }

    /** The dozen's secrets from .. last sign and submit, each for the motion of the same number. */
    static String signatures(int from, int last) {
        StringBuilder row = new StringBuilder();
        for (int secret = from; secret <= last; secret++) {
            row.append(signing(secret, secret)).append(';').append(submission(secret, secret)).append(';');
        }
        return row.toString();
    }

    /** Edits the whole draft, which has that many numbers. */
    static String edits(int... numbers) {
        return row("edit ", numbers);
    }

    /** Makes a bundle of these ints. */
    static String pokes(List<Integer> ints) {
        return "cut 0;" + row("poke ", ints.stream().mapToInt(Integer::intValue).toArray());
    }

    /** Fills the bundle up with zeros. */
    static String zeros(int from, int end) {
        StringBuilder row = new StringBuilder();
        for (int i = from; i < end; i++) {
            row.append("poke ").append(i).append(" 0;");
        }
        return row.toString();
    }

    private static String row(String call, int[] numbers) {
        StringBuilder row = new StringBuilder();
        for (int i = 0; i < numbers.length; i++) {
            row.append(call).append(i).append(' ').append(numbers[i]).append(';');
        }
        return row.toString();
    }
}
