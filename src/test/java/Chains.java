import java.math.BigInteger;

/** The document's mix, bases and chains once more, written apart from the program and without its checks. */
final class Chains {
    static final int P = 2027;
    static final int Q = 1013;
    static final int G = 4;
    private static final BigInteger MODULUS = BigInteger.valueOf(P);

    private Chains() {
    }

    static long mix(int... row) {
        long h = 17;
        for (int x : row) {
            h = ((h ^ (x & 0xFFFFFFFFL)) * 0x9E3779B1L) & 0xFFFFFFFFL;
            h = h ^ (h >> 15);
        }
        return h;
    }

    static int rest(int... row) {
        return (int) ((mix(row) >> 1) % Q);
    }

    static int power(int base, int exponent) {
        return BigInteger.valueOf(base).modPow(BigInteger.valueOf(Math.floorMod(exponent, Q)), MODULUS).intValue();
    }

    static boolean inGroup(int x) {
        return x >= 1 && x < P && BigInteger.valueOf(x).modPow(BigInteger.valueOf(Q), MODULUS).intValue() == 1;
    }

    static int base(int value) {
        for (int k = 0; k <= 63; k++) {
            int m = (int) ((mix(value, k) >> 1) % P);
            if (m != 1 && inGroup(m)) {
                return m;
            }
        }
        return G;
    }

    /** The secret of a key, found by trying. */
    static int secret(int key) {
        int power = 1;
        for (int secret = 1; secret < Q; secret++) {
            power = power * G % P;
            if (power == key) {
                return secret;
            }
        }
        throw new AssertionError(key + " is no key");
    }

    static int[] keys(int... secrets) {
        int[] keys = new int[secrets.length];
        for (int i = 0; i < keys.length; i++) {
            keys[i] = power(G, secrets[i]);
        }
        return keys;
    }

    static int[] row(int[] keys, int... behind) {
        int[] row = new int[1 + keys.length + behind.length];
        row[0] = keys.length;
        System.arraycopy(keys, 0, row, 1, keys.length);
        System.arraycopy(behind, 0, row, 1 + keys.length, behind.length);
        return row;
    }

    static int step(int[] keys, int value, int motion, int tag, int challenge, int place, int response) {
        int left = power(G, response) * power(keys[place], challenge) % P;
        int right = power(base(value), response) * power(tag, challenge) % P;
        return rest(row(keys, value, motion, tag, left, right));
    }

    static boolean comesBack(int[] keys, int value, int motion, int[] numbers) {
        int challenge = numbers[0];
        for (int i = 0; i < keys.length; i++) {
            challenge = step(keys, value, motion, numbers[1], challenge, i, numbers[2 + i]);
        }
        return challenge == numbers[0];
    }

    static int[] sign(int[] keys, int value, int motion, int place, int secret) {
        int nonce = rest(secret, value, motion, place);
        return signWith(keys, value, motion, place, secret, power(base(value), secret), nonce);
    }

    /** Signs with whatever tag; whether the chain comes back is not looked at. */
    static int[] signWith(int[] keys, int value, int motion, int place, int secret, int tag, int nonce) {
        int n = keys.length;
        int[] numbers = new int[2 + n];
        numbers[1] = tag;
        int challenge = rest(row(keys, value, motion, tag, power(G, nonce), power(base(value), nonce)));
        for (int i = place + 1; i < place + n; i++) {
            if (i % n == 0) {
                numbers[0] = challenge;
            }
            numbers[2 + i % n] = rest(secret, value, motion, i % n);
            challenge = step(keys, value, motion, tag, challenge, i % n, numbers[2 + i % n]);
        }
        if (place == 0) {
            numbers[0] = challenge;
        }
        numbers[2 + place] = Math.floorMod(nonce - secret * challenge, Q);
        return numbers;
    }

    /** A chain with whatever tag that comes back, got by trying nonces and motions; its motion is the last number. */
    static int[] forge(int[] keys, int value, int place, int secret, int tag) {
        for (int motion = 0; motion < 1000; motion++) {
            for (int nonce = 0; nonce < Q; nonce++) {
                int[] numbers = signWith(keys, value, motion, place, secret, tag, nonce);
                if (comesBack(keys, value, motion, numbers)) {
                    int[] forged = new int[numbers.length + 1];
                    System.arraycopy(numbers, 0, forged, 0, numbers.length);
                    forged[numbers.length] = motion;
                    return forged;
                }
            }
        }
        throw new AssertionError("no chain comes back with tag " + tag);
    }
}
