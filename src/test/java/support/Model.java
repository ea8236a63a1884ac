import java.math.BigInteger;
import java.util.ArrayList;
import java.util.List;
import java.util.NoSuchElementException;
import java.util.TreeMap;
import java.util.TreeSet;

/** The document in the plainest words of the Java library, to hold the class against. */
final class Model {
    private static final BigInteger E = BigInteger.valueOf(65537);

    record Filed(long power, int c, long z) {
    }

    static final class Moved {
        long block;
        String standing = "open";
        long signature;
        final TreeMap<Integer, Filed> partials = new TreeMap<>();
        final TreeSet<Integer> objections = new TreeSet<>();
    }

    private boolean dealt;
    private BigInteger n;
    private BigInteger m;
    private BigInteger lambda;
    private BigInteger a;
    private BigInteger b;
    private BigInteger v;
    private int epoch;
    private final TreeSet<Integer> suspended = new TreeSet<>();
    private final List<Integer> buffer = new ArrayList<>();
    private final List<Moved> motions = new ArrayList<>();
    private final List<Integer> sealed = new ArrayList<>();

    static BigInteger big(long number) {
        return BigInteger.valueOf(number);
    }

    static long mix(long... numbers) {
        BigInteger h = big(7);
        BigInteger all = BigInteger.ONE.shiftLeft(64);
        for (long number : numbers) {
            h = h.xor(big(number).mod(all)).multiply(new BigInteger("6364136223846793005"))
                    .add(new BigInteger("1442695040888963407")).mod(all);
        }
        return h.shiftRight(33).longValueExact();
    }

    static boolean safePrime(int p) {
        return p >= 20 && p <= 32767 && p % 2 == 1
                && big(p).isProbablePrime(60) && big((p - 1) / 2).isProbablePrime(60);
    }

    static long blockOf(long modulus, int... bytes) {
        long[] numbers = new long[bytes.length + 1];
        for (int i = 0; i < bytes.length; i++) {
            numbers[i] = bytes[i];
        }
        numbers[bytes.length] = bytes.length;
        return 2 + mix(numbers) % (modulus - 3);
    }

    long bufferBlock() {
        return blockOf(n.longValueExact(), buffer.stream().mapToInt(x -> x).toArray());
    }

    long order() {
        return m.longValueExact();
    }

    BigInteger d() {
        return E.modInverse(m);
    }

    BigInteger part(int trustee) {
        BigInteger t = big(trustee + 1);
        return d().add(a.multiply(t)).add(b.multiply(t).multiply(t)).mod(m);
    }

    long check(int trustee) {
        return power(v, part(trustee));
    }

    private long power(BigInteger base, BigInteger exponent) {
        return base.modPow(exponent, n).longValueExact();
    }

    private boolean primeToN(long number) {
        return big(number).gcd(n).equals(BigInteger.ONE);
    }

    void deal(int p, int q, int a, int b, int base) {
        if (!safePrime(p) || !safePrime(q) || p == q || a < 0 || b < 0) {
            throw new IllegalArgumentException();
        }
        BigInteger product = big(p).multiply(big(q));
        if (base < 2 || big(base).compareTo(product.subtract(big(2))) > 0
                || !big(base).gcd(product).equals(BigInteger.ONE)) {
            throw new IllegalArgumentException();
        }
        dealt = true;
        n = product;
        m = big((p - 1) / 2).multiply(big((q - 1) / 2));
        lambda = big(p - 1).multiply(big(q - 1));
        this.a = big(a);
        this.b = big(b);
        v = big(base).pow(2).mod(n);
        epoch = 0;
        suspended.clear();
        motions.clear();
        sealed.clear();
    }

    int put(int word, int count) {
        if (count < 1 || count > 4 || buffer.size() + count > 24) {
            throw new IllegalArgumentException();
        }
        byte[] four = {(byte) (word >> 24), (byte) (word >> 16), (byte) (word >> 8), (byte) word};
        for (int i = 4 - count; i < 4; i++) {
            buffer.add(Byte.toUnsignedInt(four[i]));
        }
        return buffer.size();
    }

    int motion() {
        if (!dealt || buffer.isEmpty() || motions.size() == 12) {
            throw new IllegalStateException();
        }
        Moved moved = new Moved();
        moved.block = bufferBlock();
        motions.add(moved);
        buffer.clear();
        return motions.size() - 1;
    }

    private Moved at(int motion) {
        if (motion < 0 || motion >= motions.size()) {
            throw new NoSuchElementException();
        }
        return motions.get(motion);
    }

    private Moved at(int motion, int trustee) {
        if (trustee < 0 || trustee > 5) {
            throw new NoSuchElementException();
        }
        return at(motion);
    }

    private static boolean hasVoice(Moved moved, int trustee) {
        return moved.partials.containsKey(trustee) || moved.objections.contains(trustee);
    }

    Filed honest(int motion, int trustee) {
        long x = at(motion).block;
        BigInteger s = part(trustee);
        BigInteger r = big(mix(s.longValueExact(), x, epoch));
        long power = power(big(x), s.multiply(big(1440)));
        BigInteger u = big(x).modPow(big(2880), n);
        long w = power(big(power), big(2));
        long c = mix(v.longValueExact(), u.longValueExact(), check(trustee), w, power(v, r), power(u, r)) >>> 15;
        return new Filed(power, (int) c, s.multiply(big(c)).add(r).longValueExact());
    }

    void consent(int motion, int trustee) {
        Moved moved = at(motion, trustee);
        if (!moved.standing.equals("open") || suspended.contains(trustee) || hasVoice(moved, trustee)) {
            throw new IllegalStateException();
        }
        moved.partials.put(trustee, honest(motion, trustee));
    }

    void object(int motion, int trustee) {
        Moved moved = at(motion, trustee);
        if (!moved.standing.equals("open") || hasVoice(moved, trustee)) {
            throw new IllegalStateException();
        }
        moved.objections.add(trustee);
        if (moved.objections.size() == 3) {
            moved.standing = "closed";
        }
    }

    void file(int motion, int trustee, long power, int c, long z) {
        Moved moved = at(motion, trustee);
        if (!moved.standing.equals("open") || moved.objections.contains(trustee)) {
            throw new IllegalStateException();
        }
        moved.partials.put(trustee, new Filed(power, c, z));
    }

    long partial(int motion, int trustee, int what) {
        Filed filed = at(motion, trustee).partials.get(trustee);
        if (filed == null) {
            throw new NoSuchElementException();
        }
        if (what < 0 || what > 2) {
            throw new IllegalArgumentException();
        }
        return new long[] {filed.power, filed.c, filed.z}[what];
    }

    boolean good(int motion, int trustee, Filed filed) {
        long x = at(motion).block;
        if (!primeToN(x) || filed.power < 0 || big(filed.power).compareTo(n) >= 0 || !primeToN(filed.power)
                || filed.c < 0 || filed.c > 65535 || filed.z < 0) {
            return false;
        }
        BigInteger u = big(x).modPow(big(2880), n);
        BigInteger w = big(filed.power).pow(2).mod(n);
        BigInteger check = big(check(trustee));
        BigInteger left = v.modPow(big(filed.z), n).multiply(check.modPow(big(-filed.c), n)).mod(n);
        BigInteger right = u.modPow(big(filed.z), n).multiply(w.modPow(big(-filed.c), n)).mod(n);
        return mix(v.longValueExact(), u.longValueExact(), check.longValueExact(), w.longValueExact(),
                left.longValueExact(), right.longValueExact()) >>> 15 == filed.c;
    }

    int bad(int motion) {
        int bits = 0;
        for (var filed : at(motion).partials.entrySet()) {
            if (!good(motion, filed.getKey(), filed.getValue())) {
                bits += 1 << filed.getKey();
            }
        }
        return bits;
    }

    /** The root of any number below N, prime to it or not: N has no square divisor. */
    long root(long x) {
        return power(big(x), E.modInverse(lambda));
    }

    long join(int motion) {
        Moved moved = at(motion);
        if (!moved.standing.equals("open")) {
            throw new IllegalStateException();
        }
        if (!primeToN(moved.block)) {
            throw new ArithmeticException();
        }
        if (moved.partials.size() - Integer.bitCount(bad(motion)) < 3) {
            throw new IllegalStateException();
        }
        moved.signature = root(moved.block);
        moved.standing = "sealed";
        sealed.add(motion);
        return moved.signature;
    }

    boolean verify(long signature) {
        if (!dealt || buffer.isEmpty()) {
            throw new IllegalStateException();
        }
        return signature == root(bufferBlock());
    }

    void refresh(int a, int b) {
        if (a < 0 || b < 0) {
            throw new IllegalArgumentException();
        }
        if (!dealt) {
            throw new IllegalStateException();
        }
        this.a = this.a.add(big(a));
        this.b = this.b.add(big(b));
        epoch++;
        for (Moved moved : motions) {
            if (moved.standing.equals("open")) {
                moved.partials.clear();
            }
        }
    }

    boolean suspend(int trustee, boolean on) {
        if (trustee < 0 || trustee > 5) {
            throw new NoSuchElementException();
        }
        if (!dealt) {
            throw new IllegalStateException();
        }
        return on ? suspended.add(trustee) : suspended.remove(trustee);
    }

    /** Three values of a polynomial of the second degree always give it. */
    boolean parts(int mask) {
        if (mask < 0 || mask > 63 || Integer.bitCount(mask) != 3) {
            throw new IllegalArgumentException();
        }
        if (!dealt) {
            throw new IllegalStateException();
        }
        return true;
    }

    private static int bits(Iterable<Integer> trustees) {
        int bits = 0;
        for (int trustee : trustees) {
            bits += 1 << trustee;
        }
        return bits;
    }

    long told(int motion, int what) {
        Moved moved = at(motion);
        return switch (what) {
            case 0 -> List.of("open", "sealed", "closed").indexOf(moved.standing);
            case 1 -> moved.block;
            case 2 -> bits(moved.partials.keySet());
            case 3 -> bits(moved.objections);
            case 4 -> moved.signature;
            default -> throw new IllegalArgumentException();
        };
    }

    int book(int place) {
        if (place < 0) {
            throw new IllegalArgumentException();
        }
        return place < sealed.size() ? sealed.get(place) : -1;
    }

    long state(int what) {
        if (what < 0 || what > 10) {
            throw new IllegalArgumentException();
        }
        if (what == 4) {
            return buffer.size();
        }
        if (!dealt) {
            return 0;
        }
        return switch (what) {
            case 0 -> n.longValueExact();
            case 1 -> epoch;
            case 2 -> motions.size();
            case 3 -> bits(suspended);
            default -> check(what - 5);
        };
    }
}
