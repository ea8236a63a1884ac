import java.util.Arrays;
import java.util.function.Supplier;

/** Every edge that the document's terms name: what is last on its one side and first on the other. */
public final class TermsEdgesTest {
    private static final int MANY = Integer.MAX_VALUE;
    private static final int LEAST = Integer.MIN_VALUE;
    private static final int N = Trusts.SMALL_N;
    private static final int M = Trusts.SMALL_M;

    private static final Edges EDGES = new Edges("Terms");

    public static void main(String[] args) {
        EDGES.in("Terms");
        key();
        mixing();
        document();
        partial();
        good();
        motion();
        refreshing();
        EDGES.end("TermsEdgesTest");
    }

    private static void key() {
        EDGES.sentence("p and q are different safe primes 20 .. 32767 (p = 2 p' + 1 with p' prime, likewise q)",
                TermsEdgesTest::primes);
        EDGES.sentence("The POLYNOMIAL f(t) = d + a t + b t t modulo m (a, b are told)",
                TermsEdgesTest::coefficients);
        EDGES.sentence("the PART of trustee i (0 .. 5) is f(i + 1), 0 .. m - 1", TermsEdgesTest::partsAtTheirEnds);
        EDGES.sentence("The BASE v is the square of a number that is told, modulo N", TermsEdgesTest::bases);
        EDGES.sentence("the CHECK of a trustee is v to the power of its part. (All powers are modulo N.)",
                TermsEdgesTest::checks);
    }

    private static void primes() {
        int[][] allowed = {{23, 47}, {47, 23}, {23, 32603}, {32603, 23}, {32507, 32603}, {32603, 32507}};
        for (int[] pq : allowed) {
            Edges.allowed(SealTrust::new, "deal " + pq[0] + " " + pq[1], t -> t.deal(pq[0], pq[1], 0, 0, 2));
        }
        // 11 and 32843 are the safe primes next to the bounds; 29 and 32749 are primes, 39 has a prime half.
        int[] refused = {11, 19, 20, 21, 22, 24, 25, 29, 39, 46, 32602, 32604, 32749, 32767, 32768, 32771, 32843,
            7, 5, 3, 2, 1, 0, -23, MANY, LEAST};
        for (int wrong : refused) {
            Edges.refused(Edges.ILLEGAL, Trusts::busy, "deal p " + wrong, t -> t.deal(wrong, 47, 0, 0, 2));
            Edges.refused(Edges.ILLEGAL, Trusts::busy, "deal q " + wrong, t -> t.deal(47, wrong, 0, 0, 2));
        }
        for (int same : new int[] {23, 47, 32603}) {
            Edges.refused(Edges.ILLEGAL, Trusts::busy, "deal twice " + same, t -> t.deal(same, same, 0, 0, 2));
        }
    }

    private static void sameChecks(String when, SealTrust trust, Model model) {
        for (int what = 5; what <= 10; what++) {
            Check.due(when + ", state " + what, trust.state(what), model.state(what));
        }
    }

    private static Model modelOf(int p, int q, int a, int b, int base) {
        Model model = new Model();
        model.deal(p, q, a, b, base);
        return model;
    }

    private static void coefficients() {
        int m = Trusts.LARGEST_M;
        int[] values = {0, 1, m - 1, m, m + 1, MANY - 1, MANY};
        for (int a : values) {
            for (int b : values) {
                sameChecks("a " + a + ", b " + b, Trusts.dealt(32507, 32603, a, b, 3), modelOf(32507, 32603, a, b, 3));
            }
        }
        SealTrust none = Trusts.dealt(32507, 32603, 0, 0, 3);
        SealTrust round = Trusts.dealt(32507, 32603, m, m, 3);
        for (int what = 5; what <= 10; what++) {
            Check.due("m is as good as 0, state " + what, round.state(what), none.state(what));
            Check.due("without a and b all parts are d, state " + what, none.state(what), none.state(5));
        }
    }

    /** An a with which a trustee's part, b being 0, is the one that is wanted. */
    private static int coefficientFor(int trustee, int part) {
        for (int a = 0; a < M; a++) {
            if (modelOf(23, 47, a, 0, 3).part(trustee).intValue() == part) {
                return a;
            }
        }
        throw new IllegalStateException("no such a");
    }

    private static void partsAtTheirEnds() {
        for (int i = 0; i < 6; i++) {
            int trustee = i;
            for (int part : new int[] {0, 1, M - 1}) {
                int a = coefficientFor(i, part);
                Supplier<SealTrust> made = () -> Trusts.dealt(23, 47, a, 0, 3);
                long check = part == 0 ? 1 : part == 1 ? 9 : Model.big(9).modInverse(Model.big(N)).longValueExact();
                Edges.answers(check, made, "check of " + i + " with part " + part, t -> t.state(5 + trustee));
                SealTrust trust = made.get();
                Model model = modelOf(23, 47, a, 0, 3);
                Trusts.move(trust, 0x54686973, 4);
                model.put(0x54686973, 4);
                model.motion();
                trust.consent(0, i);
                samePartial("of " + i + " with part " + part, trust, model, i);
                Check.due("the partial of part " + part + " is good", trust.bad(0), 0);
            }
        }
    }

    private static void samePartial(String when, SealTrust trust, Model model, int trustee) {
        Model.Filed due = model.honest(0, trustee);
        Check.due("power " + when, trust.partial(0, trustee, 0), due.power());
        Check.due("c " + when, trust.partial(0, trustee, 1), due.c());
        Check.due("z " + when, trust.partial(0, trustee, 2), due.z());
    }

    private static void bases() {
        // 32 * 32 is below 1081, 33 * 33 beyond it; part 1 shows the base itself.
        int a = coefficientFor(0, 1);
        int[][] squares = {{2, 4}, {32, 1024}, {33, 8}, {N - 33, 8}, {N - 32, 1024}, {N - 2, 4}};
        for (int[] square : squares) {
            Edges.answers(square[1], () -> Trusts.dealt(23, 47, a, 0, square[0]), "v of " + square[0],
                    t -> t.state(5));
        }
        int n = Trusts.LARGEST_N;
        for (int base : new int[] {2, 32554, 32555, 46340, 46341, n - 46341, n - 2}) {
            sameChecks("base " + base, Trusts.dealt(32507, 32603, 5, 7, base), modelOf(32507, 32603, 5, 7, base));
        }
    }

    private static void checks() {
        for (int[] pq : new int[][] {{23, 47}, {47, 23}, {23, 32603}, {32507, 32603}}) {
            SealTrust trust = Trusts.dealt(pq[0], pq[1], MANY, MANY, 2);
            sameChecks("keys of " + pq[0] + " " + pq[1], trust, modelOf(pq[0], pq[1], MANY, MANY, 2));
            for (int what = 5; what <= 10; what++) {
                long check = trust.state(what);
                Check.due("a check is 1 .. N - 1, state " + what, check >= 1 && check < trust.state(0), true);
            }
        }
    }

    private static void mixing() {
        EDGES.sentence("MIXING numbers (of 64 bits, what is beyond is lost): h is 7 at first; for each number,"
                + " in order, h becomes (h xor it) * 6364136223846793005 + 1442695040888963407",
                TermsEdgesTest::mixesOfSixtyFourBits);
        EDGES.sentence("Of it the upper 31 bits (h >>> 33) are the MIX", TermsEdgesTest::mixesOfThirtyOneBits);
    }

    private static void blockIs(int p, int q, int... bytes) {
        SealTrust trust = Trusts.dealt(p, q, 1, 1, 2);
        for (int one : bytes) {
            trust.put(one, 1);
        }
        trust.motion();
        Check.due("block of " + bytes.length + " bytes by " + p * q, trust.told(0, 1), Model.blockOf(p * q, bytes));
    }

    private static int[] bytes(int count, int each) {
        int[] bytes = new int[count];
        Arrays.fill(bytes, each);
        return bytes;
    }

    /** Already the second number meets an h beyond 64 bits. */
    private static void mixesOfSixtyFourBits() {
        for (int count : new int[] {1, 2, 3, 23, 24}) {
            for (int each : new int[] {0, 1, 127, 128, 254, 255}) {
                blockIs(23, 47, bytes(count, each));
                blockIs(32507, 32603, bytes(count, each));
            }
        }
    }

    /** Bytes whose mixes lie on both sides of 2^30, where the highest bit begins. */
    private static void mixesOfThirtyOneBits() {
        int high = 0;
        for (int one = 0; one < 256; one++) {
            high += Model.mix(one, 1) >= 1 << 30 ? 1 : 0;
            blockIs(32507, 32603, one);
        }
        Check.due("there are mixes with the highest bit", high > 0, true);
        Check.due("there are mixes without it", high < 256, true);
    }

    private static void document() {
        EDGES.sentence("A DOCUMENT has 1 .. 24 bytes", TermsEdgesTest::documents);
        EDGES.sentence("Its BLOCK x is 2 + the rest of the mix", TermsEdgesTest::blocksAtTheirEnds);
        EDGES.sentence("its bytes (0 .. 255, in order) and then their number", TermsEdgesTest::bytesOfDocuments);
    }

    private static SealTrust withBytes(int count) {
        SealTrust trust = Trusts.small();
        for (int i = 0; i < count; i++) {
            trust.put(i, 1);
        }
        return trust;
    }

    private static void documents() {
        Edges.refused(Edges.STATE, () -> withBytes(0), "motion of 0 bytes", SealTrust::motion);
        Edges.refused(Edges.STATE, () -> withBytes(0), "verify of 0 bytes", t -> t.verify(1));
        for (int count = 1; count <= 24; count++) {
            int[] bytes = new int[count];
            for (int i = 0; i < count; i++) {
                bytes[i] = i;
            }
            SealTrust trust = withBytes(count);
            Check.due("motion of " + count + " bytes", 0, trust::motion);
            Check.due("its block", Model.blockOf(N, bytes), () -> trust.told(0, 1));
            int asked = count;
            Edges.allowed(() -> withBytes(asked), "verify of " + count + " bytes", t -> t.verify(1));
        }
        Edges.refused(Edges.ILLEGAL, () -> withBytes(24), "the 25th byte", t -> t.put(0, 1));
    }

    private static void blocksAtTheirEnds() {
        for (int block : new int[] {2, 3, N - 3, N - 2}) {
            int word = Trusts.wordWithBlock(block);
            SealTrust trust = Trusts.small();
            Trusts.move(trust, word, 2);
            Check.due("the block is " + block, block, () -> trust.told(0, 1));
            Trusts.consents(trust, 0, 0, 1, 2, 3, 4, 5);
            Check.due("partials on " + block + " are good", trust.bad(0), 0);
            long signature = trust.join(0);
            trust.put(word, 2);
            Check.due("the signature of " + block, true, () -> trust.verify(signature));
        }
        long least = N;
        long greatest = 0;
        for (int one = 0; one < 256; one++) {
            SealTrust trust = Trusts.small();
            Trusts.move(trust, one, 1);
            least = Math.min(least, trust.told(0, 1));
            greatest = Math.max(greatest, trust.told(0, 1));
        }
        Check.due("no block is below 2", least >= 2, true);
        Check.due("no block is beyond N - 2", greatest <= N - 2, true);
    }

    private static void bytesOfDocuments() {
        blockIs(32507, 32603, 0);
        blockIs(32507, 32603, 127);
        blockIs(32507, 32603, 128);
        blockIs(32507, 32603, 255);
        blockIs(32507, 32603, 0, 255);
        blockIs(32507, 32603, 255, 0);
        blockIs(32507, 32603, 0, 0);
        SealTrust trust = Trusts.dealt(32507, 32603, 1, 1, 2);
        Trusts.move(trust, 0x00FF, 2);
        Trusts.move(trust, 0xFF00, 2);
        Trusts.move(trust, 0, 1);
        Trusts.move(trust, 0, 2);
        Check.due("another order gives another block", trust.told(0, 1) == trust.told(1, 1), false);
        Check.due("another number gives another block", trust.told(2, 1) == trust.told(3, 1), false);
    }

    private static void partial() {
        EDGES.sentence("the power x^(1440 s)", TermsEdgesTest::powersOfConsent);
        EDGES.sentence("let r be the mix of s, x, and the epoch", TermsEdgesTest::epochsOfConsent);
        EDGES.sentence("without its lowest 15 bits (c >>> 15)", TermsEdgesTest::challengesAtTheirEnds);
        EDGES.sentence("z = s c + r", TermsEdgesTest::answersAtTheirEnds);
    }

    private static SealTrust consented(int a, int word, int bytes, int trustee) {
        SealTrust trust = Trusts.dealt(32507, 32603, a, 0, 3);
        Trusts.move(trust, word, bytes);
        trust.consent(0, trustee);
        return trust;
    }

    /** The a with which the first part of the largest key is as told. */
    private static int firstPart(int part) {
        int d = modelOf(32507, 32603, 0, 0, 3).d().intValueExact();
        return Math.floorMod(part - d, Trusts.LARGEST_M);
    }

    private static void powersOfConsent() {
        SealTrust nothing = consented(firstPart(0), 0x6162, 2, 0);
        Check.due("the power of part 0", 1, () -> nothing.partial(0, 0, 0));
        for (int part : new int[] {1, Trusts.LARGEST_M - 1}) {
            SealTrust trust = consented(firstPart(part), 0x6162, 2, 0);
            Model model = modelOf(32507, 32603, firstPart(part), 0, 3);
            model.put(0x6162, 2);
            model.motion();
            samePartial("of part " + part, trust, model, 0);
        }
        SealTrust notPrime = Trusts.small();
        Model model = modelOf(23, 47, 5, 7, 3);
        Trusts.move(notPrime, 5, 1);
        model.put(5, 1);
        model.motion();
        notPrime.consent(0, 0);
        samePartial("on a block that 23 divides", notPrime, model, 0);
    }

    private static void epochsOfConsent() {
        SealTrust trust = Trusts.moved();
        Model model = modelOf(23, 47, 5, 7, 3);
        model.put(0x54686973, 4);
        model.motion();
        long[] answers = new long[3];
        for (int epoch = 0; epoch < 3; epoch++) {
            trust.consent(0, 0);
            samePartial("in epoch " + epoch, trust, model, 0);
            answers[epoch] = trust.partial(0, 0, 2);
            trust.refresh(0, 0);
            model.refresh(0, 0);
        }
        Check.due("the same part in another epoch has another z", answers[0] == answers[1], false);
        Check.due("and again", answers[1] == answers[2], false);
    }

    /** Documents whose first proof has the least c and the greatest one, found by search. */
    private static void challengesAtTheirEnds() {
        int a = firstPart(Trusts.LARGEST_M - 1);
        SealTrust least = consented(a, 16215, 3, 0);
        Check.due("the least c", 0, () -> least.partial(0, 0, 1));
        Check.due("the partial of the least c is good", 0, () -> least.bad(0));
        SealTrust greatest = consented(a, 20166, 3, 0);
        Check.due("the greatest c", 65535, () -> greatest.partial(0, 0, 1));
        Check.due("the partial of the greatest c is good", 0, () -> greatest.bad(0));
    }

    private static void answersAtTheirEnds() {
        int a = firstPart(Trusts.LARGEST_M - 1);
        SealTrust least = consented(a, 16215, 3, 0);
        Check.due("z is r where c is 0", 378133126, () -> least.partial(0, 0, 2));
        SealTrust greatest = consented(a, 20166, 3, 0);
        Check.due("z of the greatest part and c", 17363036065930L, () -> greatest.partial(0, 0, 2));
    }

    private static void good() {
        EDGES.sentence("It is GOOD if the power and z are as such numbers can be"
                + " (power 0 .. N - 1 and prime to N, c 0 .. 65535, z 0 or more)", TermsEdgesTest::numbersOfGood);
        EDGES.sentence("v^z * check^-c and u^z * w^-c (modulo N)", TermsEdgesTest::proofsOfGood);
        EDGES.sentence("(If x is not prime to N no partial is good.)", TermsEdgesTest::blocksOfGood);
    }

    private static void filed(int word, int bytes, int trustee, long power, int c, long z, boolean good) {
        SealTrust trust = Trusts.small();
        Trusts.move(trust, word, bytes);
        trust.file(0, trustee, power, c, z);
        Check.due("power " + power + ", c " + c + ", z " + z, good ? 0 : 1 << trustee, () -> trust.bad(0));
    }

    private static void filed(int trustee, long power, int c, long z, boolean good) {
        filed(0x54686973, 4, trustee, power, c, z, good);
    }

    /** All these proofs hold by the words of the mix (found by search); the bounds alone make some of them bad. */
    private static void numbersOfGood() {
        filed(0, 1, 48210, 252, true);
        filed(0, N - 1, 48210, 252, true);
        filed(0, N + 1, 48210, 252, false);
        filed(0, 1 - N, 48210, 252, false);
        filed(0, -1, 48210, 252, false);
        filed(0, 1 + (1L << 32) * N, 48210, 252, false);
        filed(0xA9, 2, 0, 0, 0, 245, false);
        filed(0xA9, 2, 0, N, 0, 245, false);
        filed(1, 1, 1, 12 * 23, 0, 60, false);
        filed(1, 1, 4, 6 * 47, 0, 94, false);

        filed(0, 122, 0, 201, true);
        filed(0, 122, -1, 201, false);
        filed(0, 122, 65536, 201, false);
        filed(1, 64, 65535, 175, true);
        filed(1, 64, 65536, 175, false);
        filed(1, 64, -1, 175, false);
        filed(1, 64, 65535 + 65536, 175, false);

        filed(0, 2, 13959, 0, true);
        filed(0, 2, 13959, -1, false);
        filed(0, 2, 13959, Long.MIN_VALUE, false);
        filed(0, 1, 48210, -1, false);
        filed(0, 1, 48210, -1 - M, false);
        filed(0, 2, 37610, Long.MAX_VALUE, true);
        filed(0, 2, 13412, Long.MIN_VALUE, false);
        filed(0, 2, 13412, Math.floorMod(Long.MIN_VALUE, M), true);
    }

    /** v and u are squares: what is added to z or c in rounds of m changes no power, but c is mixed as it is. */
    private static void proofsOfGood() {
        SealTrust trust = consented(firstPart(7), 0x6162, 2, 0);
        long power = trust.partial(0, 0, 0);
        int c = (int) trust.partial(0, 0, 1);
        long z = trust.partial(0, 0, 2);
        long m = Trusts.LARGEST_M;
        Check.due("as it was made", 0, () -> trust.bad(0));
        long[] zs = {z % m, z + m, z + m * ((Long.MAX_VALUE - z) / m)};
        for (long round : zs) {
            trust.file(0, 0, power, c, round);
            Check.due("z " + round, 0, () -> trust.bad(0));
            trust.file(0, 0, power, c, round - 1);
            Check.due("z " + (round - 1), 1, () -> trust.bad(0));
        }
        trust.file(0, 0, Trusts.LARGEST_N - power, c, z);
        Check.due("the other root of w", 0, () -> trust.bad(0));
        trust.file(0, 0, power - 1, c, z);
        Check.due("another power", 1, () -> trust.bad(0));
        trust.file(0, 0, power, c + 1, z);
        Check.due("another c", 1, () -> trust.bad(0));
        trust.file(0, 1, power, c, z);
        Check.due("another's check", 3, () -> trust.bad(0));
    }

    private static void blocksOfGood() {
        for (int block : new int[] {22, 23, 24, 45, 46, 47, 48, N - 47, N - 46, N - 23, N - 22}) {
            SealTrust trust = Trusts.small();
            Trusts.move(trust, Trusts.wordWithBlock(block), 2);
            Trusts.consents(trust, 0, 0, 1, 2, 3, 4, 5);
            Check.due("bad on block " + block, block % 23 == 0 || block % 47 == 0 ? 63 : 0, () -> trust.bad(0));
        }
        // These hold by the words of the mix; 460 is 20 * 23.
        filed(5, 1, 2, 49, 0, 97, false);
        filed(5, 1, 4, 321, 0, 138, false);
    }

    private static void motion() {
        EDGES.sentence("A MOTION is OPEN (0), SEALED (1) or CLOSED (2)", TermsEdgesTest::standings);
        EDGES.sentence("each trustee has at most one VOICE on it: a partial that is filed, or an objection",
                TermsEdgesTest::voices);
        EDGES.sentence("with the third objection it is closed", TermsEdgesTest::objections);
        EDGES.sentence("JOINING takes three good partials or more", TermsEdgesTest::joinings);
        EDGES.sentence("the signature is the number y below N with y^e = x modulo N (there is just one)",
                TermsEdgesTest::signatures);
    }

    private static void standings() {
        SealTrust trust = Trusts.busy();
        for (int motion = 0; motion < 4; motion++) {
            int asked = motion;
            Check.due("state of " + motion, motion % 3, () -> trust.told(asked, 0));
        }
        SealTrust last = Trusts.moved();
        Trusts.consents(last, 0, 0, 1, 2);
        Check.due("three partials do not seal it", 0, () -> last.told(0, 0));
        last.join(0);
        Check.due("joining does", 1, () -> last.told(0, 0));
    }

    private static void voices() {
        Edges.refused(Edges.STATE, Trusts::busy, "a second consent", t -> t.consent(0, 0));
        Edges.refused(Edges.STATE, Trusts::busy, "an objection after a consent", t -> t.object(0, 0));
        Edges.refused(Edges.STATE, Trusts::busy, "a consent after a filed partial", t -> t.consent(0, 3));
        Edges.refused(Edges.STATE, Trusts::busy, "an objection after a filed partial", t -> t.object(0, 3));
        Edges.refused(Edges.STATE, Trusts::busy, "a second objection", t -> t.object(0, 2));
        Edges.refused(Edges.STATE, Trusts::busy, "a consent after an objection", t -> t.consent(0, 2));
        Edges.refused(Edges.STATE, Trusts::busy, "a partial after an objection", t -> t.file(0, 2, 1, 1, 1));
        Edges.allowed(Trusts::busy, "a first consent", t -> t.consent(0, 4));
        Edges.allowed(Trusts::busy, "a first objection", t -> t.object(0, 4));
        Edges.allowed(Trusts::busy, "a first partial", t -> t.file(0, 4, 1, 1, 1));
        SealTrust all = Trusts.moved();
        Trusts.consents(all, 0, 0, 1, 2, 3);
        all.object(0, 4);
        all.object(0, 5);
        Check.due("voices with partials", 15, () -> all.told(0, 2));
        Check.due("voices with objections", 48, () -> all.told(0, 3));
    }

    private static SealTrust objected(int count) {
        SealTrust trust = Trusts.moved();
        for (int trustee = 0; trustee < count; trustee++) {
            trust.object(0, trustee);
        }
        return trust;
    }

    private static void objections() {
        for (int count = 0; count <= 3; count++) {
            int made = count;
            Edges.answers(count < 3 ? 0 : 2, () -> objected(made), count + " objections", t -> t.told(0, 0));
        }
        Edges.allowed(() -> objected(2), "a consent after two", t -> t.consent(0, 5));
        Edges.allowed(() -> objected(2), "a third objection", t -> t.object(0, 5));
        Edges.refused(Edges.STATE, () -> objected(3), "a consent after three", t -> t.consent(0, 5));
        Edges.refused(Edges.STATE, () -> objected(3), "a fourth objection", t -> t.object(0, 5));
        Edges.refused(Edges.STATE, () -> objected(3), "a partial after three", t -> t.file(0, 5, 1, 1, 1));
        Edges.refused(Edges.STATE, () -> objected(3), "joining after three", t -> t.join(0));
        SealTrust agreed = objected(2);
        Trusts.consents(agreed, 0, 2, 3, 4);
        Check.due("three partials against two objections", 159, () -> agreed.join(0));
    }

    /** Partials of the lowest trustees, the bad ones after the good ones. */
    private static SealTrust partials(int goodOnes, int badOnes) {
        SealTrust trust = Trusts.moved();
        for (int trustee = 0; trustee < goodOnes; trustee++) {
            trust.consent(0, trustee);
        }
        for (int trustee = goodOnes; trustee < goodOnes + badOnes; trustee++) {
            trust.file(0, trustee, 3, 4, 5);
        }
        return trust;
    }

    private static void joinings() {
        for (int goodOnes = 0; goodOnes <= 6; goodOnes++) {
            for (int badOnes = 0; goodOnes + badOnes <= 6; badOnes++) {
                int g = goodOnes;
                int b = badOnes;
                String call = "join of " + g + " good and " + b + " bad";
                if (g < 3) {
                    Edges.refused(Edges.STATE, () -> partials(g, b), call, t -> t.join(0));
                } else {
                    Edges.answers(159, () -> partials(g, b), call, t -> t.join(0));
                }
            }
        }
    }

    private static void signatures() {
        for (int block : new int[] {2, N - 2, 23, 47}) {
            int word = Trusts.wordWithBlock(block);
            int found = 0;
            for (int y = 0; y < N; y++) {
                SealTrust trust = Trusts.small();
                trust.put(word, 2);
                found += trust.verify(y) ? 1 : 0;
            }
            Check.due("signatures of block " + block, found, 1);
        }
        // 2^65537 is 1024 modulo 1081, so these have the least and the greatest signature that there is.
        for (int y : new int[] {2, N - 2}) {
            SealTrust trust = Trusts.small();
            Trusts.move(trust, Trusts.wordWithBlock(y == 2 ? 1024 : N - 1024), 2);
            Trusts.consents(trust, 0, 1, 3, 5);
            Check.due("the signature " + y, y, () -> trust.join(0));
        }
        signaturesOfKeys();
    }

    /** Blocks are squares, and not squares, modulo the one prime and the other. */
    private static void signaturesOfKeys() {
        for (int[] pq : new int[][] {{23, 47}, {47, 59}, {23, 32603}, {83, 107}, {32507, 32603}}) {
            SealTrust trust = Trusts.dealt(pq[0], pq[1], 1, 2, 2);
            Model model = modelOf(pq[0], pq[1], 1, 2, 2);
            for (int motion = 0; motion < 12; motion++) {
                int joined = Trusts.move(trust, 300 + motion, 2);
                Trusts.consents(trust, motion, 0, 3, 4);
                long block = trust.told(motion, 1);
                boolean prime = block % pq[0] != 0 && block % pq[1] != 0;
                Check.due("join of block " + block + " by " + pq[0] + " " + pq[1],
                        prime ? model.root(block) : Edges.ARITHMETIC, () -> trust.join(joined));
            }
        }
    }

    private static void refreshing() {
        EDGES.sentence("REFRESHING adds a t + b t t (modulo m, numbers told) to the polynomial",
                TermsEdgesTest::addings);
        EDGES.sentence("parts and checks are new, the EPOCH is one more", TermsEdgesTest::epochs);
        EDGES.sentence("all partials on open motions are gone (objections stay)", TermsEdgesTest::goneAndStaying);
    }

    private static void addings() {
        int m = Trusts.LARGEST_M;
        int[] values = {0, 1, m - 1, m, MANY};
        for (int a : values) {
            for (int b : values) {
                SealTrust trust = Trusts.dealt(32507, 32603, MANY, MANY, 3);
                Model model = modelOf(32507, 32603, MANY, MANY, 3);
                trust.refresh(a, b);
                model.refresh(a, b);
                sameChecks("refresh " + a + " " + b, trust, model);
                trust.refresh(b, a);
                model.refresh(b, a);
                sameChecks("refresh " + a + " " + b + " twice", trust, model);
                Check.due("the whole stays", true, () -> trust.parts(0b110100));
            }
        }
        SealTrust back = Trusts.small();
        long check = back.state(5);
        back.refresh(1, 0);
        Check.due("another check", back.state(5) == check, false);
        back.refresh(M - 1, 0);
        Check.due("m rounds to nothing", back.state(5), check);
    }

    private static void epochs() {
        SealTrust trust = Trusts.small();
        Model model = modelOf(23, 47, 5, 7, 3);
        Check.due("the first epoch", 0, () -> trust.state(1));
        for (int epoch = 1; epoch <= 128; epoch++) {
            trust.refresh(MANY, epoch);
            model.refresh(MANY, epoch);
            Check.due("the next epoch", epoch, () -> trust.state(1));
        }
        sameChecks("after 128 refreshings", trust, model);
        // An object answers for 512 calls: this one has as many refreshings as it can be asked about.
        SealTrust longest = Trusts.small();
        for (int epoch = 1; epoch <= 510; epoch++) {
            longest.refresh(1, 0);
        }
        Check.due("the last epoch", 510, () -> longest.state(1));
        SealTrust idle = Trusts.small();
        idle.refresh(0, 0);
        Check.due("adding nothing is a refreshing too", 1, () -> idle.state(1));
        Check.due("its check is as it was", idle.state(5), Trusts.small().state(5));
    }

    private static void goneAndStaying() {
        SealTrust trust = Trusts.busy();
        long signature = trust.told(1, 4);
        trust.refresh(0, 0);
        long[][] due = {{0, 0, 4, 0}, {1, 7, 0, signature}, {2, 1, 56, 0}, {0, 0, 0, 0}};
        for (int motion = 0; motion < 4; motion++) {
            long[] row = due[motion];
            int asked = motion;
            Check.due("state of " + motion, row[0], () -> trust.told(asked, 0));
            Check.due("partials of " + motion, row[1], () -> trust.told(asked, 2));
            Check.due("objections of " + motion, row[2], () -> trust.told(asked, 3));
            Check.due("signature of " + motion, row[3], () -> trust.told(asked, 4));
        }
        Check.due("its partial is gone", Edges.NONE, () -> trust.partial(0, 0, 0));
        Check.due("the sealed one's stays", trust.partial(1, 0, 0), Trusts.busy().partial(1, 0, 0));
        Check.acts("who objected still has a voice", Edges.STATE, () -> trust.consent(0, 2));
        Check.acts("who consented has none", "nothing", () -> trust.object(0, 0));
        Check.acts("nor who filed", "nothing", () -> trust.object(0, 3));
        Check.due("objections of before and after close it", 2, () -> trust.told(0, 0));
        SealTrust last = Trusts.full();
        last.consent(0, 0);
        last.consent(11, 5);
        last.refresh(1, 1);
        Check.due("of the first motion", 0, () -> last.told(0, 2));
        Check.due("of the twelfth motion", 0, () -> last.told(11, 2));
    }
}
