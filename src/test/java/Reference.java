import java.util.ArrayList;
import java.util.HashSet;
import java.util.List;
import java.util.Set;

/** The document's petition in its plainest form, to compare the program with in random runs. */
public final class Reference {
    static final class Signed {
        int[] keys;
        int motion;
        int[] numbers;
    }

    static final class Subject {
        int value;
        boolean closed;
        final List<Signed> stored = new ArrayList<>();
    }

    final List<Integer> members = new ArrayList<>();
    final List<int[]> rings = new ArrayList<>();
    final List<Subject> topics = new ArrayList<>();
    int[] draft = {0, 0};
    List<Integer> bundle = new ArrayList<>();

    public int member(int key) {
        if (!isKey(key) || members.contains(key)) {
            throw new IllegalArgumentException();
        }
        if (members.size() == 12) {
            throw new IllegalStateException();
        }
        members.add(key);
        return members.size() - 1;
    }

    public int key(int secret) {
        if (secret < 1 || secret > 1012) {
            throw new IllegalArgumentException();
        }
        return Chains.power(4, secret);
    }

    public int ring(int choice) {
        List<Integer> chosen = new ArrayList<>();
        for (int i = 0; i < 32; i++) {
            if ((choice & (1 << i)) != 0) {
                if (i >= members.size()) {
                    throw new IllegalArgumentException();
                }
                chosen.add(members.get(i));
            }
        }
        if (chosen.size() < 2 || chosen.size() > 6) {
            throw new IllegalArgumentException();
        }
        if (rings.size() == 8) {
            throw new IllegalStateException();
        }
        rings.add(chosen.stream().mapToInt(Integer::intValue).toArray());
        return rings.size() - 1;
    }

    public int topic(int value) {
        if (topics.size() == 6) {
            throw new IllegalStateException();
        }
        Subject subject = new Subject();
        subject.value = value;
        topics.add(subject);
        return topics.size() - 1;
    }

    public int base(int topic) {
        return Chains.base(subject(topic).value);
    }

    public int sign(int ring, int topic, int place, int secret, int motion) {
        int[] keys = keysOf(ring);
        Subject subject = subject(topic);
        if (place < 0 || place >= keys.length || key(secret) != keys[place]) {
            throw new IllegalArgumentException();
        }
        draft = Chains.sign(keys, subject.value, motion, place, secret);
        return draft[1];
    }

    public int draft(int i) {
        within(i, draft.length);
        return draft[i];
    }

    public void edit(int i, int v) {
        within(i, draft.length);
        draft[i] = v;
    }

    public int submit(int ring, int topic, int motion) {
        int[] keys = keysOf(ring);
        Subject subject = subject(topic);
        if (!subject.closed && !isGood(keys, subject.value, motion, draft)) {
            throw new IllegalArgumentException();
        }
        if (subject.closed) {
            throw new IllegalStateException();
        }
        if (seen(topic) || subject.stored.size() == 8) {
            throw new UnsupportedOperationException();
        }
        Signed signed = new Signed();
        signed.keys = keys;
        signed.motion = motion;
        signed.numbers = draft.clone();
        subject.stored.add(signed);
        return subject.stored.size();
    }

    public int count(int topic) {
        return subject(topic).stored.size();
    }

    public boolean seen(int topic) {
        return subject(topic).stored.stream().anyMatch(signed -> signed.numbers[1] == draft[1]);
    }

    public int recount(int topic) {
        Subject subject = subject(topic);
        Set<Integer> tags = new HashSet<>();
        for (int k = 0; k < subject.stored.size(); k++) {
            Signed signed = subject.stored.get(k);
            if (!isGood(signed.keys, subject.value, signed.motion, signed.numbers) || !tags.add(signed.numbers[1])) {
                return -1 - k;
            }
        }
        return subject.stored.size();
    }

    public void spoil(int topic, int k, int i, int v) {
        Subject subject = subject(topic);
        within(k, subject.stored.size());
        within(i, subject.stored.get(k).numbers.length);
        subject.stored.get(k).numbers[i] = v;
    }

    public int close(int topic) {
        Subject subject = subject(topic);
        if (subject.closed) {
            throw new IllegalStateException();
        }
        subject.closed = true;
        return subject.stored.size();
    }

    public int export(int topic) {
        Subject subject = subject(topic);
        bundle = new ArrayList<>(List.of(subject.value, subject.stored.size()));
        for (Signed signed : subject.stored) {
            bundle.addAll(bundled(signed.keys, signed.motion, signed.numbers));
        }
        return bundle.size();
    }

    public int bundle(int i) {
        within(i, bundle.size());
        return bundle.get(i);
    }

    public void poke(int i, int v) {
        within(i, Math.min(bundle.size() + 1, 200));
        if (i == bundle.size()) {
            bundle.add(v);
        } else {
            bundle.set(i, v);
        }
    }

    public void cut(int n) {
        if (n < 0 || n > bundle.size()) {
            throw new IllegalArgumentException();
        }
        bundle = new ArrayList<>(bundle.subList(0, n));
    }

    public int check() {
        List<Integer> unread = new ArrayList<>(bundle);
        int value = next(unread);
        int signatures = next(unread);
        if (signatures < 0 || signatures > 8) {
            throw new IllegalArgumentException();
        }
        Set<Integer> tags = new HashSet<>();
        for (int k = 0; k < signatures; k++) {
            int n = next(unread);
            if (n < 2 || n > 6) {
                throw new IllegalArgumentException();
            }
            int[] keys = next(unread, n);
            int motion = next(unread);
            int[] numbers = next(unread, 2 + n);
            if (!areKeys(keys) || !isGood(keys, value, motion, numbers) || !tags.add(numbers[1])) {
                throw new IllegalArgumentException();
            }
        }
        if (!unread.isEmpty()) {
            throw new IllegalArgumentException();
        }
        return signatures;
    }

    static List<Integer> bundled(int[] keys, int motion, int[] numbers) {
        List<Integer> ints = new ArrayList<>();
        for (int x : Chains.row(keys, motion)) {
            ints.add(x);
        }
        for (int x : numbers) {
            ints.add(x);
        }
        return ints;
    }

    private static boolean isGood(int[] keys, int value, int motion, int[] numbers) {
        if (numbers.length != 2 + keys.length || !isKey(numbers[1])) {
            return false;
        }
        for (int i = 0; i < numbers.length; i++) {
            if (i != 1 && (numbers[i] < 0 || numbers[i] > 1012)) {
                return false;
            }
        }
        return Chains.comesBack(keys, value, motion, numbers);
    }

    private static boolean isKey(int x) {
        return x != 1 && Chains.inGroup(x);
    }

    private static boolean areKeys(int[] keys) {
        Set<Integer> different = new HashSet<>();
        for (int key : keys) {
            if (!isKey(key) || !different.add(key)) {
                return false;
            }
        }
        return true;
    }

    private static int next(List<Integer> unread) {
        if (unread.isEmpty()) {
            throw new IllegalArgumentException();
        }
        return unread.remove(0);
    }

    private static int[] next(List<Integer> unread, int n) {
        int[] row = new int[n];
        for (int i = 0; i < n; i++) {
            row[i] = next(unread);
        }
        return row;
    }

    private static void within(int i, int size) {
        if (i < 0 || i >= size) {
            throw new IndexOutOfBoundsException();
        }
    }

    private int[] keysOf(int ring) {
        if (ring < 0 || ring >= rings.size()) {
            throw new IllegalArgumentException();
        }
        return rings.get(ring);
    }

    private Subject subject(int topic) {
        if (topic < 0 || topic >= topics.size()) {
            throw new IllegalArgumentException();
        }
        return topics.get(topic);
    }
}
