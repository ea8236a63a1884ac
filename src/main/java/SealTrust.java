import java.util.NoSuchElementException;

/**
 * A seal that six trustees hold together: an RSA key dealt into parts, partial signatures with
 * proofs, three good ones of which join into the signature that the whole key gives.
 */
public final class SealTrust {
    private static final int TRUSTEES = 6;
    private static final int QUORUM = 3;
    private static final int CLOSING_OBJECTIONS = 3;
    private static final int MOST_MOTIONS = 12;
    private static final int MOST_BYTES = 24;
    private static final int MOST_BYTES_OF_WORD = 4;
    private static final int MOST_CHALLENGE = 65535;

    private static final int LEAST_PRIME = 20;
    private static final int MOST_PRIME = 32767;
    private static final long PUBLIC_EXPONENT = 65537;
    private static final long WHOLE_FACTOR = 720;
    private static final long PARTIAL_FACTOR = 1440;
    private static final long PROOF_FACTOR = 2880;

    private static final long MIX_START = 7;
    private static final long MIX_FACTOR = 6364136223846793005L;
    private static final long MIX_ADDEND = 1442695040888963407L;

    private static final int OPEN = 0;
    private static final int SEALED = 1;
    private static final int CLOSED = 2;

    private final Key key;
    private final Buffer buffer;
    private final Motion[] motions;
    private final int[] sealed;
    private int motionCount;
    private int sealedCount;
    private int suspended;

    public SealTrust() {
        key = new Key();
        buffer = new Buffer();
        motions = new Motion[MOST_MOTIONS];
        for (int i = 0; i < MOST_MOTIONS; i++) {
            motions[i] = new Motion();
        }
        sealed = new int[MOST_MOTIONS];
    }

    public void deal(int p, int q, int a, int b, int base) throws IllegalArgumentException {
        if (!isSafePrime(p) || !isSafePrime(q) || p == q) {
            throw new IllegalArgumentException("p and q are two safe primes of 20 .. 32767");
        }
        if (a < 0 || b < 0) {
            throw new IllegalArgumentException("a and b are 0 or more");
        }
        if (base < 2 || base > p * q - 2 || base % p == 0 || base % q == 0) {
            throw new IllegalArgumentException("base is 2 .. N - 2 and prime to N");
        }
        key.begin(p, q, base);
        key.addPolynomial(a, b);
        motionCount = 0;
        sealedCount = 0;
        suspended = 0;
    }

    public int put(int word, int n) throws IllegalArgumentException {
        if (n < 1 || n > MOST_BYTES_OF_WORD || n > buffer.room()) {
            throw new IllegalArgumentException("1 .. 4 bytes at once, 24 in all");
        }
        buffer.append(word, n);
        return buffer.count();
    }

    public int motion() throws IllegalStateException {
        requireDocument();
        if (motionCount >= MOST_MOTIONS) {
            throw new IllegalStateException("there are twelve motions");
        }
        motions[motionCount].begin(key.blockOf(buffer));
        buffer.clear();
        motionCount++;
        return motionCount - 1;
    }

    public void consent(int motion, int trustee) throws NoSuchElementException, IllegalStateException {
        Motion moved = motionAt(motion);
        requireTrustee(trustee);
        requireOpen(moved);
        requireNoVoice(moved, trustee);
        if (isIn(suspended, trustee)) {
            throw new IllegalStateException("the trustee is suspended");
        }
        key.makePartial(moved, trustee);
    }

    public void object(int motion, int trustee) throws NoSuchElementException, IllegalStateException {
        Motion moved = motionAt(motion);
        requireTrustee(trustee);
        requireOpen(moved);
        requireNoVoice(moved, trustee);
        moved.takeObjection(trustee);
    }

    public void file(int motion, int trustee, long power, int c, long z)
            throws NoSuchElementException, IllegalStateException {
        Motion moved = motionAt(motion);
        requireTrustee(trustee);
        requireOpen(moved);
        if (isIn(moved.objections, trustee)) {
            throw new IllegalStateException("the trustee objected");
        }
        moved.takePartial(trustee, power, c, z);
    }

    public long partial(int motion, int trustee, int what)
            throws NoSuchElementException, IllegalArgumentException {
        Motion moved = motionAt(motion);
        requireTrustee(trustee);
        if (!isIn(moved.partials, trustee)) {
            throw new NoSuchElementException("no partial is filed");
        }
        switch (what) {
            case 0:
                return moved.powers[trustee];
            case 1:
                return moved.challenges[trustee];
            case 2:
                return moved.answers[trustee];
            default:
                throw new IllegalArgumentException("what is 0 .. 2");
        }
    }

    public int bad(int motion) throws NoSuchElementException {
        Motion moved = motionAt(motion);
        return moved.partials & ~goodPartials(moved);
    }

    public long join(int motion) throws NoSuchElementException, IllegalStateException, ArithmeticException {
        Motion moved = motionAt(motion);
        requireOpen(moved);
        if (!key.isPrimeToModulus(moved.block)) {
            throw new ArithmeticException("the block is not prime to N");
        }
        if (Integer.bitCount(goodPartials(moved)) < QUORUM) {
            throw new IllegalStateException("fewer than three good partials");
        }
        moved.seal(key.signatureOf(moved.block));
        enter(motion);
        return moved.signature;
    }

    public boolean verify(long signature) throws IllegalStateException {
        requireDocument();
        return key.isSignature(signature, key.blockOf(buffer));
    }

    public void refresh(int a, int b) throws IllegalArgumentException, IllegalStateException {
        if (a < 0 || b < 0) {
            throw new IllegalArgumentException("a and b are 0 or more");
        }
        requireKey();
        key.addPolynomial(a, b);
        key.epoch++;
        dropOpenPartials();
    }

    public boolean suspend(int trustee, boolean on) throws NoSuchElementException, IllegalStateException {
        requireTrustee(trustee);
        requireKey();
        if (isIn(suspended, trustee) == on) {
            return false;
        }
        suspended ^= 1 << trustee;
        return true;
    }

    public boolean parts(int mask) throws IllegalArgumentException, IllegalStateException {
        if (mask < 0 || mask >= 1 << TRUSTEES || Integer.bitCount(mask) != QUORUM) {
            throw new IllegalArgumentException("three of the six trustees");
        }
        requireKey();
        return key.isWholeBy(mask);
    }

    public long told(int motion, int what) throws NoSuchElementException, IllegalArgumentException {
        Motion moved = motionAt(motion);
        switch (what) {
            case 0:
                return moved.standing;
            case 1:
                return moved.block;
            case 2:
                return moved.partials;
            case 3:
                return moved.objections;
            case 4:
                return moved.signature;
            default:
                throw new IllegalArgumentException("what is 0 .. 4");
        }
    }

    public int book(int n) throws IllegalArgumentException {
        if (n < 0) {
            throw new IllegalArgumentException("n is 0 or more");
        }
        return n < sealedCount ? sealed[n] : -1;
    }

    public long state(int what) throws IllegalArgumentException {
        if (what < 0 || what > 4 + TRUSTEES) {
            throw new IllegalArgumentException("what is 0 .. 10");
        }
        if (what == 4) {
            return buffer.count();
        }
        if (!key.dealt) {
            return 0;
        }
        switch (what) {
            case 0:
                return key.modulus;
            case 1:
                return key.epoch;
            case 2:
                return motionCount;
            case 3:
                return suspended;
            default:
                return key.checks[what - 5];
        }
    }

    private void requireKey() {
        if (!key.dealt) {
            throw new IllegalStateException("no key");
        }
    }

    private void requireDocument() {
        requireKey();
        if (buffer.count() == 0) {
            throw new IllegalStateException("an empty buffer");
        }
    }

    private Motion motionAt(int number) {
        if (number < 0 || number >= motionCount) {
            throw new NoSuchElementException("no such motion");
        }
        return motions[number];
    }

    private static void requireTrustee(int trustee) {
        if (trustee < 0 || trustee >= TRUSTEES) {
            throw new NoSuchElementException("no such trustee");
        }
    }

    private static void requireOpen(Motion moved) {
        if (moved.standing != OPEN) {
            throw new IllegalStateException("the motion is not open");
        }
    }

    private static void requireNoVoice(Motion moved, int trustee) {
        if (isIn(moved.partials | moved.objections, trustee)) {
            throw new IllegalStateException("the trustee has a voice on the motion");
        }
    }

    private int goodPartials(Motion moved) {
        int good = 0;
        for (int i = 0; i < TRUSTEES; i++) {
            if (isIn(moved.partials, i) && key.isGood(moved, i)) {
                good |= 1 << i;
            }
        }
        return good;
    }

    private void dropOpenPartials() {
        for (int i = 0; i < motionCount; i++) {
            if (motions[i].standing == OPEN) {
                motions[i].dropPartials();
            }
        }
    }

    private void enter(int motion) {
        if (sealedCount < MOST_MOTIONS) {
            sealed[sealedCount] = motion;
            sealedCount++;
        }
    }

    private static boolean isIn(int bits, int trustee) {
        return (bits >>> trustee & 1) == 1;
    }

    private static boolean isSafePrime(int number) {
        return number >= LEAST_PRIME && number <= MOST_PRIME
                && isPrime(number) && isPrime((number - 1) / 2);
    }

    private static boolean isPrime(int number) {
        for (int divisor = 2; divisor * divisor <= number; divisor++) {
            if (number % divisor == 0) {
                return false;
            }
        }
        return number >= 2;
    }

    private static long mixIn(long mixed, long number) {
        return (mixed ^ number) * MIX_FACTOR + MIX_ADDEND;
    }

    private static long mixOf(long mixed) {
        return mixed >>> 33;
    }

    /** 0 .. divisor - 1, for numbers below 0 too; 0 where a key that is not dealt leaves no divisor. */
    private static long rest(long number, long divisor) {
        if (divisor <= 0) {
            return 0;
        }
        long left = number % divisor;
        return left < 0 ? left + divisor : left;
    }

    /** Base and modulus stay below 2^31, so that no product leaves a long. */
    private static long powerModulo(long base, long exponent, long modulus) {
        long result = rest(1, modulus);
        long square = rest(base, modulus);
        long left = exponent;
        for (int bit = 0; bit < 63 && left > 0; bit++) {
            if ((left & 1) == 1) {
                result = rest(result * square, modulus);
            }
            square = rest(square * square, modulus);
            left >>= 1;
        }
        return result;
    }

    /** The bytes that will be the next motion's document. */
    private static final class Buffer {
        private final int[] bytes = new int[MOST_BYTES];
        private int size;

        int count() {
            return size;
        }

        int room() {
            return MOST_BYTES - size;
        }

        void append(int word, int n) {
            for (int i = n - 1; i >= 0 && size < MOST_BYTES; i--) {
                bytes[size] = word >>> 8 * i & 255;
                size++;
            }
        }

        void clear() {
            size = 0;
        }

        long mix() {
            long mixed = MIX_START;
            for (int i = 0; i < size; i++) {
                mixed = mixIn(mixed, bytes[i]);
            }
            return mixOf(mixIn(mixed, size));
        }
    }

    /** A document's block with the voices on it; begun anew when a later key needs its place. */
    private static final class Motion {
        private final long[] powers = new long[TRUSTEES];
        private final int[] challenges = new int[TRUSTEES];
        private final long[] answers = new long[TRUSTEES];
        private int standing;
        private long block;
        private int partials;
        private int objections;
        private long signature;

        void begin(long newBlock) {
            standing = OPEN;
            block = newBlock;
            partials = 0;
            objections = 0;
            signature = 0;
        }

        void takePartial(int trustee, long power, int challenge, long answer) {
            powers[trustee] = power;
            challenges[trustee] = challenge;
            answers[trustee] = answer;
            partials |= 1 << trustee;
        }

        void dropPartials() {
            partials = 0;
        }

        void takeObjection(int trustee) {
            objections |= 1 << trustee;
            if (Integer.bitCount(objections) >= CLOSING_OBJECTIONS) {
                standing = CLOSED;
            }
        }

        void seal(long newSignature) {
            signature = newSignature;
            standing = SEALED;
        }
    }

    /** The dealt key: what all may know, what each trustee holds, and the whole. */
    private static final class Key {
        private final long[] shares = new long[TRUSTEES];
        private final long[] checks = new long[TRUSTEES];
        private boolean dealt;
        private long epoch;
        private long base;
        private long whole;
        private long signing;
        private long p;
        private long q;
        private long modulus;
        private long order;

        /** Every part is d until the polynomial's rest is added, which makes the checks too. */
        void begin(long newP, long newQ, long root) {
            p = newP;
            q = newQ;
            modulus = p * q;
            long halfP = (p - 1) / 2;
            long halfQ = (q - 1) / 2;
            order = halfP * halfQ;
            // Blocks need not be squares, so signing needs the inverse modulo 2 m; of the numbers
            // below 2 m, (p' - 1)(q' - 1) are prime to it, and that power of each is 1.
            signing = powerModulo(PUBLIC_EXPONENT, (halfP - 1) * (halfQ - 1) - 1, 2 * order);
            whole = rest(signing, order);
            base = rest(root * root, modulus);
            epoch = 0;
            dealt = true;
            for (int i = 0; i < TRUSTEES; i++) {
                shares[i] = whole;
            }
        }

        void addPolynomial(long a, long b) {
            for (int i = 0; i < TRUSTEES; i++) {
                long t = i + 1;
                shares[i] = rest(shares[i] + a * t + b * t * t, order);
                checks[i] = power(base, shares[i]);
            }
        }

        boolean isPrimeToModulus(long number) {
            return rest(number, p) != 0 && rest(number, q) != 0;
        }

        long blockOf(Buffer document) {
            return 2 + rest(document.mix(), modulus - 3);
        }

        long signatureOf(long block) {
            return power(block, signing);
        }

        boolean isSignature(long number, long block) {
            return isBelowModulus(number) && power(number, PUBLIC_EXPONENT) == block;
        }

        void makePartial(Motion motion, int trustee) {
            long share = shares[trustee];
            long x = motion.block;
            long r = mixOf(mixIn(mixIn(mixIn(MIX_START, share), x), epoch));
            long signed = power(x, PARTIAL_FACTOR * share);
            long u = power(x, PROOF_FACTOR);
            int c = challenge(trustee, u, times(signed, signed), power(base, r), power(u, r));
            motion.takePartial(trustee, signed, c, share * c + r);
        }

        boolean isGood(Motion motion, int trustee) {
            long signed = motion.powers[trustee];
            int c = motion.challenges[trustee];
            long z = motion.answers[trustee];
            if (!isBelowModulus(signed) || c < 0 || c > MOST_CHALLENGE || z < 0) {
                return false;
            }
            if (!isPrimeToModulus(signed) || !isPrimeToModulus(motion.block)) {
                return false;
            }
            long u = power(motion.block, PROOF_FACTOR);
            long w = times(signed, signed);
            long ofBase = times(power(base, z), inversePower(checks[trustee], c));
            long ofBlock = times(power(u, z), inversePower(w, c));
            return challenge(trustee, u, w, ofBase, ofBlock) == c;
        }

        private int challenge(int trustee, long u, long w, long ofBase, long ofBlock) {
            long mixed = mixIn(mixIn(mixIn(MIX_START, base), u), checks[trustee]);
            mixed = mixIn(mixIn(mixIn(mixed, w), ofBase), ofBlock);
            return (int) (mixOf(mixed) >>> 15);
        }

        /** 720 times each trustee's weight is whole: the two differences divide it. */
        boolean isWholeBy(int mask) {
            long sum = 0;
            for (int i = 0; i < TRUSTEES; i++) {
                if (isIn(mask, i)) {
                    sum += shares[i] * weight(mask, i);
                }
            }
            return rest(sum, order) == rest(WHOLE_FACTOR * whole, order);
        }

        private static long weight(int mask, int i) {
            long above = WHOLE_FACTOR;
            long below = 1;
            for (int j = 0; j < TRUSTEES; j++) {
                if (j != i && isIn(mask, j)) {
                    above *= j + 1;
                    below *= j - i;
                }
            }
            return below == 0 ? 0 : above / below;
        }

        private boolean isBelowModulus(long number) {
            return number >= 0 && number < modulus;
        }

        private long times(long a, long b) {
            return rest(a * b, modulus);
        }

        private long power(long number, long exponent) {
            return powerModulo(number, exponent, modulus);
        }

        /** A number prime to N to the power of 2 m is 1, so the rest of -c by it serves for -c. */
        private long inversePower(long number, long c) {
            return power(number, rest(-c, 2 * order));
        }
    }
}
