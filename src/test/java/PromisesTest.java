import java.math.BigInteger;

/** Every promise of the document by its number: ordinary inputs, the edges it names, wrong inputs. */
public final class PromisesTest {
    private static final String FINE = "nothing";
    private static final String ILLEGAL = "throws.IllegalArgumentException";
    private static final String STATE = "throws.IllegalStateException";
    private static final String NONE = "throws.NoSuchElementException";
    private static final int[] NO_TRUSTEES = {-1, 6, Integer.MIN_VALUE, Integer.MAX_VALUE};
    private static final int MANY = Integer.MAX_VALUE;

    public static void main(String[] args) {
        promise1();
        promise2();
        promise3();
        promise4();
        promise5();
        promise6();
        promise7();
        promise8();
        promise9();
        promise10();
        promise11();
        promise12();
        promise13();
        promise14();
        promise15();
        promise16();
        promise17();
        Check.end("PromisesTest");
    }

    private static Model largeModel() {
        Model model = new Model();
        model.deal(10007, 20123, 123456, 654321, 777);
        return model;
    }

    private static void promise1() {
        SealTrust trust = new SealTrust();
        for (int what = 0; what <= 10; what++) {
            int asked = what;
            Check.due("1 new state " + what, 0, () -> trust.state(asked));
        }
        Check.due("1 new book", -1, () -> trust.book(0));
        Check.none("1 new told", () -> trust.told(0, 0));
        Check.state("1 new verify", () -> trust.verify(0));
        Check.due("1 new buffer takes all bytes", 4, () -> trust.put(0, 4));
        SealTrust other = new SealTrust();
        Check.due("1 objects share nothing", 0, () -> other.state(4));
    }

    private static void promise2() {
        SealTrust trust = Trusts.small();
        Check.due("2 N", 1081, () -> trust.state(0));
        Check.due("2 check 0", 277, () -> trust.state(5));
        Check.due("2 check 5", 1061, () -> trust.state(10));
        wrongDeals(trust);
        Check.due("2 a refused deal changes nothing", 1081, () -> trust.state(0));
        Check.due("2 nor a check", 277, () -> trust.state(5));
        int[][] right = {{47, 23, 0, 0, 2}, {23, 47, MANY, MANY, 1079}, {32507, 32603, MANY, MANY, 2},
            {32507, 32603, 0, MANY, 32507 * 32603 - 2}, {10007, 20123, 1, 0, 20122}};
        for (int[] d : right) {
            Model model = new Model();
            model.deal(d[0], d[1], d[2], d[3], d[4]);
            Check.acts("2 deal of " + d[0] + " " + d[1], FINE, () -> trust.deal(d[0], d[1], d[2], d[3], d[4]));
            for (int what = 0; what <= 10; what++) {
                Check.due("2 state " + what + " of " + d[0] + " " + d[1], trust.state(what), model.state(what));
            }
        }
        dealAnew();
        everySafePrime();
    }

    private static void wrongDeals(SealTrust trust) {
        int[][] wrong = {{23, 23, 1, 1, 3}, {11, 47, 1, 1, 3}, {47, 11, 1, 1, 3}, {7, 23, 1, 1, 3}, {29, 47, 1, 1, 3},
            {47, 29, 1, 1, 3}, {24, 47, 1, 1, 3}, {39, 47, 1, 1, 3}, {-23, 47, 1, 1, 3}, {0, 47, 1, 1, 3},
            {23, 32771, 1, 1, 3}, {23, 32843, 1, 1, 3}, {23, MANY, 1, 1, 3}, {Integer.MIN_VALUE, 47, 1, 1, 3},
            {23, 47, -1, 1, 3}, {23, 47, 1, -1, 3}, {23, 47, Integer.MIN_VALUE, 1, 3}, {23, 47, 1, 1, 1},
            {23, 47, 1, 1, 0}, {23, 47, 1, 1, -3}, {23, 47, 1, 1, 46}, {23, 47, 1, 1, 94}, {23, 47, 1, 1, 1080},
            {23, 47, 1, 1, 1081}, {23, 47, 1, 1, 1082}, {23, 47, 1, 1, MANY}};
        for (int[] d : wrong) {
            Check.acts("2 deal of " + java.util.Arrays.toString(d), ILLEGAL,
                    () -> trust.deal(d[0], d[1], d[2], d[3], d[4]));
        }
    }

    private static void dealAnew() {
        SealTrust trust = Trusts.small();
        int motion = Trusts.move(trust, Trusts.byteWithBlock(true), 1);
        Trusts.consents(trust, motion, 0, 1, 2);
        trust.object(motion, 3);
        trust.join(motion);
        trust.suspend(4, true);
        trust.refresh(1, 1);
        trust.put(0x616263, 3);
        trust.deal(23, 59, 1, 2, 3);
        Check.due("2 the epoch is 0 again", 0, () -> trust.state(1));
        Check.due("2 motions are empty", 0, () -> trust.state(2));
        Check.due("2 no seat is suspended", 0, () -> trust.state(3));
        Check.due("2 the buffer stays", 3, () -> trust.state(4));
        Check.due("2 the book is empty", -1, () -> trust.book(0));
        Check.none("2 the old motion is gone", () -> trust.told(0, 0));
        Check.due("2 numbers begin anew", 0, trust::motion);
        for (int what : new int[] {0, 2, 3, 4}) {
            Check.due("2 a new motion in an old one's place, " + what, 0, () -> trust.told(0, what));
        }
        Check.due("2 its block is by the new N", Model.blockOf(23 * 59, 0x61, 0x62, 0x63), () -> trust.told(0, 1));
    }

    private static void everySafePrime() {
        SealTrust trust = new SealTrust();
        for (int p = 0; p <= 32900; p++) {
            int q = p == 23 ? 47 : 23;
            int tried = p;
            // An object answers for 512 calls.
            trust = p % 500 == 0 ? new SealTrust() : trust;
            SealTrust asked = trust;
            String due = Model.safePrime(p) ? FINE : ILLEGAL;
            String got = Check.act(() -> asked.deal(tried, q, 1, 1, 2));
            if (!got.equals(due) || due.equals(FINE)) {
                Check.due("2 deal with p " + p, got, due);
            }
        }
    }

    private static void promise3() {
        SealTrust trust = new SealTrust();
        for (int n : new int[] {0, 5, -1, 24, Integer.MIN_VALUE, MANY}) {
            Check.illegal("3 put of " + n, () -> trust.put(7, n));
        }
        Check.due("3 one", 1, () -> trust.put(1, 1));
        Check.due("3 two more", 3, () -> trust.put(1, 2));
        Check.due("3 three more", 6, () -> trust.put(1, 3));
        for (int size = 10; size <= 22; size += 4) {
            Check.due("3 four more", size, () -> trust.put(-1, 4));
        }
        Check.illegal("3 three are more than 24", () -> trust.put(1, 3));
        Check.illegal("3 four are more than 24", () -> trust.put(1, 4));
        Check.due("3 a refused put changes nothing", 22, () -> trust.state(4));
        Check.due("3 the last two", 24, () -> trust.put(1, 2));
        Check.illegal("3 one is more than 24", () -> trust.put(1, 1));

        SealTrust large = Trusts.large();
        long n = 10007L * 20123L;
        large.put(0x80FF7F01, 4);
        large.put(0x80FF7F01, 3);
        large.put(0x80FF7F01, 2);
        large.put(0x80FF7F01, 1);
        int motion = large.motion();
        Check.due("3 the lowest bytes, the highest first",
                Model.blockOf(n, 0x80, 0xFF, 0x7F, 1, 0xFF, 0x7F, 1, 0x7F, 1, 1), () -> large.told(motion, 1));
    }

    private static void promise4() {
        SealTrust trust = new SealTrust();
        trust.put(97, 1);
        Check.state("4 no key", trust::motion);
        Check.due("4 the buffer stays then", 1, () -> trust.state(4));
        trust.deal(10007, 20123, 1, 1, 2);
        Check.due("4 a buffer from before the key", 0, trust::motion);
        Check.due("4 the buffer is empty", 0, () -> trust.state(4));
        Check.state("4 an empty buffer", trust::motion);
        for (int i = 1; i < 12; i++) {
            trust.put(i, 1);
            Check.due("4 the next number", i, trust::motion);
        }
        trust.put(5, 1);
        Check.state("4 a thirteenth", trust::motion);
        Check.due("4 the buffer stays with it", 1, () -> trust.state(4));
        Check.due("4 twelve", 12, () -> trust.state(2));
        long n = 10007L * 20123L;
        Check.due("4 a document of one byte", Model.blockOf(n, 97), () -> trust.told(0, 1));
        Check.due("4 the last document", Model.blockOf(n, 11), () -> trust.told(11, 1));

        SealTrust full = Trusts.large();
        int[] bytes = new int[24];
        for (int i = 0; i < 6; i++) {
            full.put(0xFEDCBA98, 4);
            System.arraycopy(new int[] {0xFE, 0xDC, 0xBA, 0x98}, 0, bytes, 4 * i, 4);
        }
        Check.due("4 a document of 24 bytes", 0, full::motion);
        Check.due("4 its block", Model.blockOf(n, bytes), () -> full.told(0, 1));
    }

    private static void promise5() {
        SealTrust trust = Trusts.large();
        Model model = largeModel();
        model.put(0x6162, 2);
        model.motion();
        int motion = Trusts.move(trust, 0x6162, 2);
        for (int trustee : NO_TRUSTEES) {
            Check.acts("5 trustee " + trustee, NONE, () -> trust.consent(motion, trustee));
        }
        for (int number : new int[] {-1, 1, 12, MANY}) {
            Check.acts("5 motion " + number, NONE, () -> trust.consent(number, 0));
        }
        for (int i = 0; i < 6; i++) {
            int trustee = i;
            Check.acts("5 consent of " + i, FINE, () -> trust.consent(motion, trustee));
            Model.Filed due = model.honest(0, i);
            Check.due("5 power of " + i, due.power(), () -> trust.partial(motion, trustee, 0));
            Check.due("5 c of " + i, due.c(), () -> trust.partial(motion, trustee, 1));
            Check.due("5 z of " + i, due.z(), () -> trust.partial(motion, trustee, 2));
            Check.acts("5 a second consent of " + i, STATE, () -> trust.consent(motion, trustee));
        }
        Check.due("5 all have voices", 63, () -> trust.told(motion, 2));
        refusedConsents();
    }

    private static void refusedConsents() {
        SealTrust trust = Trusts.large();
        int motion = Trusts.move(trust, 0x6162, 2);
        trust.object(motion, 1);
        Check.acts("5 after an objection", STATE, () -> trust.consent(motion, 1));
        trust.suspend(2, true);
        Check.acts("5 suspended", STATE, () -> trust.consent(motion, 2));
        Check.due("5 no voice came", 0, () -> trust.told(motion, 2));
        trust.suspend(2, false);
        Check.acts("5 suspended no more", FINE, () -> trust.consent(motion, 2));
        trust.file(motion, 3, 1, 1, 1);
        Check.acts("5 after a filed partial", STATE, () -> trust.consent(motion, 3));
        Check.due("5 the filed one stays", 1, () -> trust.partial(motion, 3, 0));
        Trusts.consents(trust, motion, 0, 4);
        trust.join(motion);
        Check.acts("5 sealed", STATE, () -> trust.consent(motion, 5));
        int closed = Trusts.move(trust, 1, 1);
        trust.object(closed, 0);
        trust.object(closed, 1);
        Check.acts("5 two objections", FINE, () -> trust.consent(closed, 3));
        trust.object(closed, 2);
        Check.acts("5 closed", STATE, () -> trust.consent(closed, 4));
        Check.acts("5 no such trustee of a closed one", NONE, () -> trust.consent(closed, 6));
    }

    private static void promise6() {
        SealTrust trust = Trusts.large();
        int motion = Trusts.move(trust, 0x6162, 2);
        for (int trustee : NO_TRUSTEES) {
            Check.acts("6 trustee " + trustee, NONE, () -> trust.object(motion, trustee));
        }
        Check.acts("6 no such motion", NONE, () -> trust.object(1, 0));
        Check.acts("6 motion -1", NONE, () -> trust.object(-1, 0));
        trust.consent(motion, 0);
        Check.acts("6 after consent", STATE, () -> trust.object(motion, 0));
        trust.file(motion, 1, 0, 0, 0);
        Check.acts("6 after a filed partial", STATE, () -> trust.object(motion, 1));
        trust.suspend(5, true);
        Check.acts("6 suspended", FINE, () -> trust.object(motion, 5));
        Check.acts("6 a second time", STATE, () -> trust.object(motion, 5));
        Check.acts("6 the second one", FINE, () -> trust.object(motion, 2));
        Check.due("6 two leave it open", 0, () -> trust.told(motion, 0));
        Check.due("6 voices", 36, () -> trust.told(motion, 3));
        Check.acts("6 the third one", FINE, () -> trust.object(motion, 3));
        Check.due("6 it is closed", 2, () -> trust.told(motion, 0));
        Check.due("6 partials stay", 3, () -> trust.told(motion, 2));
        Check.acts("6 closed", STATE, () -> trust.object(motion, 4));
        Check.due("6 three voices", 44, () -> trust.told(motion, 3));
        int sealed = Trusts.move(trust, 9, 1);
        Trusts.consents(trust, sealed, 0, 1, 2);
        trust.join(sealed);
        Check.acts("6 sealed", STATE, () -> trust.object(sealed, 4));
    }

    private static void promise7() {
        SealTrust trust = Trusts.large();
        int motion = Trusts.move(trust, 0x6162, 2);
        for (int trustee : NO_TRUSTEES) {
            Check.acts("7 trustee " + trustee, NONE, () -> trust.file(motion, trustee, 1, 1, 1));
        }
        Check.acts("7 no such motion", NONE, () -> trust.file(1, 0, 1, 1, 1));
        Check.acts("7 motion -1", NONE, () -> trust.file(-1, 0, 1, 1, 1));
        Check.acts("7 whatever it is", FINE, () -> trust.file(motion, 0, Long.MIN_VALUE, Integer.MIN_VALUE, -1));
        Check.due("7 its power", Long.MIN_VALUE, () -> trust.partial(motion, 0, 0));
        Check.due("7 its c", Integer.MIN_VALUE, () -> trust.partial(motion, 0, 1));
        Check.due("7 its z", -1, () -> trust.partial(motion, 0, 2));
        Check.acts("7 replaced", FINE, () -> trust.file(motion, 0, Long.MAX_VALUE, MANY, Long.MAX_VALUE));
        Check.due("7 the new power", Long.MAX_VALUE, () -> trust.partial(motion, 0, 0));
        Check.due("7 the new c", MANY, () -> trust.partial(motion, 0, 1));
        Check.due("7 the new z", Long.MAX_VALUE, () -> trust.partial(motion, 0, 2));
        trust.consent(motion, 1);
        Check.acts("7 a consent is replaced", FINE, () -> trust.file(motion, 1, 4, 5, 6));
        Check.due("7 its power then", 4, () -> trust.partial(motion, 1, 0));
        trust.suspend(2, true);
        Check.acts("7 for a suspended one", FINE, () -> trust.file(motion, 2, 1, 1, 1));
        trust.object(motion, 3);
        Check.acts("7 after an objection", STATE, () -> trust.file(motion, 3, 1, 1, 1));
        Check.due("7 voices", 7, () -> trust.told(motion, 2));
        trust.object(motion, 4);
        trust.object(motion, 5);
        Check.acts("7 closed", STATE, () -> trust.file(motion, 0, 1, 1, 1));
        Check.due("7 a closed one keeps its own", Long.MAX_VALUE, () -> trust.partial(motion, 0, 0));
        int sealed = Trusts.move(trust, 9, 1);
        Trusts.consents(trust, sealed, 0, 1, 3);
        trust.join(sealed);
        Check.acts("7 sealed", STATE, () -> trust.file(sealed, 0, 1, 1, 1));
    }

    private static void promise8() {
        SealTrust trust = Trusts.large();
        int motion = Trusts.move(trust, 0x6162, 2);
        Check.none("8 none is filed", () -> trust.partial(motion, 0, 0));
        Check.none("8 none is filed, and no such what", () -> trust.partial(motion, 0, 3));
        trust.consent(motion, 0);
        for (int what : new int[] {-1, 3, MANY}) {
            Check.illegal("8 what " + what, () -> trust.partial(motion, 0, what));
        }
        for (int trustee : NO_TRUSTEES) {
            Check.none("8 trustee " + trustee, () -> trust.partial(motion, trustee, 0));
        }
        Check.none("8 no such motion", () -> trust.partial(1, 0, 0));
        Check.none("8 motion -1", () -> trust.partial(-1, 0, 9));
        trust.object(motion, 1);
        Check.none("8 an objection is no partial", () -> trust.partial(motion, 1, 0));
        trust.refresh(1, 1);
        Check.none("8 gone with the refreshing", () -> trust.partial(motion, 0, 0));
        SealTrust small = Trusts.small();
        small.put(1416128883, 4);
        small.motion();
        small.consent(0, 0);
        Check.due("8 power", 507, () -> small.partial(0, 0, 0));
        Check.due("8 c", 46684, () -> small.partial(0, 0, 1));
        Check.due("8 z", 1559227980L, () -> small.partial(0, 0, 2));
    }

    private static void promise9() {
        SealTrust trust = Trusts.large();
        int motion = Trusts.move(trust, 0x6162, 2);
        Check.due("9 without partials", 0, () -> trust.bad(motion));
        Check.none("9 no such motion", () -> trust.bad(1));
        Check.none("9 motion -1", () -> trust.bad(-1));
        Trusts.consents(trust, motion, 0, 1, 2, 3, 4, 5);
        Check.due("9 honest ones", 0, () -> trust.bad(motion));
        long n = trust.state(0);
        long power = trust.partial(motion, 4, 0);
        int c = (int) trust.partial(motion, 4, 1);
        long z = trust.partial(motion, 4, 2);
        long round = 2L * 5003 * 10061;
        judge(trust, motion, "the other root of its square", n - power, c, z, 0);
        judge(trust, motion, "z and the order of the squares", power, c, z + round / 2, 0);
        judge(trust, motion, "a great z", power, c, z + round * ((Long.MAX_VALUE - z) / round), 0);
        judge(trust, motion, "power + N", power + n, c, z, 16);
        judge(trust, motion, "power - N", power - n, c, z, 16);
        judge(trust, motion, "-power", -power, c, z, 16);
        judge(trust, motion, "power + 1", power + 1, c, z, 16);
        judge(trust, motion, "power 0", 0, c, z, 16);
        judge(trust, motion, "power N", n, c, z, 16);
        judge(trust, motion, "power p", 10007, c, z, 16);
        judge(trust, motion, "power q", 20123, c, z, 16);
        judge(trust, motion, "another c", power, c ^ 1, z, 16);
        judge(trust, motion, "c + 65536", power, c + 65536, z, 16);
        judge(trust, motion, "c - 65536", power, c - 65536, z, 16);
        judge(trust, motion, "z + 1", power, c, z + 1, 16);
        judge(trust, motion, "a z below 0", power, c, z - round * 40000, 16);
        judge(trust, motion, "the least numbers", Long.MIN_VALUE, Integer.MIN_VALUE, Long.MIN_VALUE, 16);
        judge(trust, motion, "the greatest numbers", Long.MAX_VALUE, MANY, Long.MAX_VALUE, 16);
        judge(trust, motion, "another's partial", trust.partial(motion, 0, 0), (int) trust.partial(motion, 0, 1),
                trust.partial(motion, 0, 2), 16);
        trust.file(motion, 0, 1, 1, 1);
        Check.due("9 two bad ones", 17, () -> trust.bad(motion));
        badLater();
        edgesOfGood();
    }

    private static void judge(SealTrust trust, int motion, String what, long power, int c, long z, int due) {
        trust.file(motion, 4, power, c, z);
        Check.due("9 " + what, due, () -> trust.bad(motion));
    }

    private static void badLater() {
        SealTrust trust = Trusts.large();
        int sealed = Trusts.move(trust, 0x6162, 2);
        int closed = Trusts.move(trust, 0x6162, 2);
        int open = Trusts.move(trust, 0x6162, 2);
        Trusts.consents(trust, sealed, 0, 1, 2);
        Trusts.consents(trust, closed, 0, 1, 2);
        Trusts.consents(trust, open, 0, 1, 2);
        trust.join(sealed);
        trust.object(closed, 3);
        trust.object(closed, 4);
        trust.object(closed, 5);
        Check.due("9 of a sealed one", 0, () -> trust.bad(sealed));
        Check.due("9 of a closed one", 0, () -> trust.bad(closed));
        int m = 5003 * 10061;
        trust.refresh(0, m);
        Check.due("9 sealed, the checks are the same", 0, () -> trust.bad(sealed));
        trust.refresh(9, 9);
        Check.due("9 sealed, by the new checks", 7, () -> trust.bad(sealed));
        Check.due("9 closed, by the new checks", 7, () -> trust.bad(closed));
        Check.due("9 open, partials are gone", 0, () -> trust.bad(open));
        trust.refresh(m - 9, m - 9);
        Check.due("9 sealed, by the first checks", 0, () -> trust.bad(sealed));

        SealTrust small = Trusts.small();
        int motion = Trusts.move(small, Trusts.byteWithBlock(false), 1);
        Trusts.consents(small, motion, 0, 3, 5);
        Check.due("9 a block that is not prime to N", 41, () -> small.bad(motion));
    }

    /** Proofs of wrong powers that hold by chance, found by search: what is good is what the words say. */
    private static void edgesOfGood() {
        SealTrust trust = forged();
        Check.due("9 the least c, the greatest c, and one between", 0, () -> trust.bad(0));
        trust.file(0, 0, 1081 - 122, 0, 201);
        trust.file(0, 1, 64 + 1081, 65535, 175);
        Check.due("9 one of them is beyond N", 2, () -> trust.bad(0));
        trust.file(0, 3, 1, 7896, 0);
        Check.due("9 power 1 and z 0", 2, () -> trust.bad(0));
        trust.file(0, 3, 1080, 7896, 0);
        Check.due("9 power N - 1 and z 0", 2, () -> trust.bad(0));

        SealTrust powers = Trusts.small();
        Trusts.move(powers, 1, 1);
        powers.file(0, 1, 12 * 23, 0, 60);
        powers.file(0, 4, 6 * 47, 0, 94);
        Check.due("9 proofs hold, the powers are not prime to N", 18, () -> powers.bad(0));

        SealTrust blocks = Trusts.small();
        Trusts.move(blocks, 5, 1);
        Check.due("9 a block that 23 divides", 460, () -> blocks.told(0, 1));
        blocks.file(0, 2, 49, 0, 97);
        blocks.file(0, 4, 321, 0, 138);
        Check.due("9 proofs hold, the block is not prime to N", 20, () -> blocks.bad(0));
    }

    /** Three partials with wrong powers (507, 545 and 346 are right) that are good all the same. */
    private static SealTrust forged() {
        SealTrust trust = Trusts.small();
        Trusts.move(trust, 1416128883, 4);
        trust.file(0, 0, 122, 0, 201);
        trust.file(0, 1, 64, 65535, 175);
        trust.file(0, 2, 6, 12345, 238);
        return trust;
    }

    private static void promise10() {
        SealTrust trust = Trusts.large();
        int motion = Trusts.move(trust, 0x6162, 2);
        Check.none("10 no such motion", () -> trust.join(1));
        Check.none("10 motion -1", () -> trust.join(-1));
        Check.state("10 no partial", () -> trust.join(motion));
        Trusts.consents(trust, motion, 1, 3);
        Check.state("10 two", () -> trust.join(motion));
        trust.file(motion, 0, 5, 5, 5);
        Check.state("10 two and a bad one", () -> trust.join(motion));
        Check.due("10 a refused join leaves it open", 0, () -> trust.told(motion, 0));
        Check.due("10 and the book empty", -1, () -> trust.book(0));
        trust.suspend(3, true);
        trust.consent(motion, 2);
        Check.due("10 three and a bad one", 177153730, () -> trust.join(motion));
        Check.due("10 sealed", 1, () -> trust.told(motion, 0));
        Check.due("10 the signature stays", 177153730, () -> trust.told(motion, 4));
        Check.due("10 in the book", 0, () -> trust.book(0));
        Check.due("10 partials stay", 15, () -> trust.told(motion, 2));
        Check.state("10 a second time", () -> trust.join(motion));
        Check.due("10 the book has it once", -1, () -> trust.book(1));
        int closed = Trusts.move(trust, 1, 1);
        Trusts.consents(trust, closed, 0, 1, 2);
        trust.object(closed, 3);
        trust.object(closed, 4);
        trust.object(closed, 5);
        Check.state("10 closed", () -> trust.join(closed));
        joinNotPrime();
        joinAnyThree();
        joinForged();
    }

    private static void joinNotPrime() {
        SealTrust trust = Trusts.small();
        int motion = Trusts.move(trust, Trusts.byteWithBlock(false), 1);
        Check.due("10 not prime, without partials", "throws.ArithmeticException", () -> trust.join(motion));
        Trusts.consents(trust, motion, 0, 1, 2);
        Check.due("10 not prime", "throws.ArithmeticException", () -> trust.join(motion));
        Check.due("10 not prime, it stays open", 0, () -> trust.told(motion, 0));
        trust.object(motion, 3);
        trust.object(motion, 4);
        trust.object(motion, 5);
        Check.state("10 not prime, and closed", () -> trust.join(motion));
    }

    /** Every three trustees, on blocks that are squares and that are not, after refreshings too. */
    private static void joinAnyThree() {
        for (int mask = 0; mask < 64; mask++) {
            if (Integer.bitCount(mask) != 3) {
                continue;
            }
            SealTrust trust = new SealTrust();
            Model model = new Model();
            trust.deal(32507, 32603, MANY, MANY - mask, 2 + mask);
            model.deal(32507, 32603, MANY, MANY - mask, 2 + mask);
            int word = 0x1000 + mask;
            model.put(word, 3);
            model.motion();
            int motion = Trusts.move(trust, word, 3);
            long x = trust.told(motion, 1);
            trust.refresh(mask, MANY);
            for (int i = 0; i < 6; i++) {
                if ((mask >> i & 1) == 1) {
                    trust.consent(motion, i);
                }
            }
            long byParts = joinByParts(trust, motion, mask);
            Check.due("10 joined from the parts " + mask, byParts, model.root(x));
            Check.due("10 join of " + mask, model.root(x), () -> trust.join(motion));
        }
    }

    /** The signature as three partials alone give it: x^(1440 * 720 d), then Euclid with e. */
    private static long joinByParts(SealTrust trust, int motion, int mask) {
        BigInteger n = Model.big(trust.state(0));
        BigInteger x = Model.big(trust.told(motion, 1));
        BigInteger whole = BigInteger.ONE;
        for (int i = 0; i < 6; i++) {
            if ((mask >> i & 1) == 1) {
                int above = 720;
                int below = 1;
                for (int j = 0; j < 6; j++) {
                    above *= j != i && (mask >> j & 1) == 1 ? j + 1 : 1;
                    below *= j != i && (mask >> j & 1) == 1 ? j - i : 1;
                }
                BigInteger power = Model.big(trust.partial(motion, i, 0));
                whole = whole.multiply(power.modPow(Model.big(above / below), n)).mod(n);
            }
        }
        BigInteger e = Model.big(65537);
        BigInteger k = Model.big(1440 * 720);
        BigInteger ofWhole = k.modInverse(e);
        BigInteger ofBlock = BigInteger.ONE.subtract(k.multiply(ofWhole)).divide(e);
        return whole.modPow(ofWhole, n).multiply(x.modPow(ofBlock, n)).mod(n).longValueExact();
    }

    /** Wrong powers whose proofs hold by chance count, and change no signature. */
    private static void joinForged() {
        SealTrust trust = forged();
        Check.due("10 the one signature", 159, () -> trust.join(0));
    }

    private static void promise11() {
        SealTrust trust = new SealTrust();
        trust.put(0x6162, 2);
        Check.state("11 no key", () -> trust.verify(1));
        trust.deal(10007, 20123, 123456, 654321, 777);
        Check.due("11 the signature", true, () -> trust.verify(177153730));
        Check.due("11 the document stays", 2, () -> trust.state(4));
        Check.due("11 another number", false, () -> trust.verify(177153731));
        long n = trust.state(0);
        for (long number : new long[] {0, 1, 177153730 + n, 177153730 - n, n - 177153730, n, -1, Long.MAX_VALUE,
            Long.MIN_VALUE, 177153730 + (1L << 32)}) {
            Check.due("11 " + number, false, () -> trust.verify(number));
        }
        trust.put(0, 1);
        Check.due("11 of another document", false, () -> trust.verify(177153730));
        trust.motion();
        Check.state("11 an empty buffer", () -> trust.verify(177153730));
        for (boolean prime : new boolean[] {true, false}) {
            int signatures = 0;
            for (int y = 0; y < 1081; y++) {
                SealTrust small = Trusts.small();
                small.put(Trusts.byteWithBlock(prime), 1);
                signatures += small.verify(y) ? 1 : 0;
            }
            Check.due("11 there is just one, block prime " + prime, signatures, 1);
        }
    }

    private static void promise12() {
        SealTrust trust = new SealTrust();
        Check.acts("12 no key", STATE, () -> trust.refresh(1, 1));
        Check.acts("12 a below 0 and no key", ILLEGAL, () -> trust.refresh(-1, 1));
        trust.deal(10007, 20123, 123456, 654321, 777);
        Model model = largeModel();
        int open = Trusts.move(trust, 0x6162, 2);
        int sealed = Trusts.move(trust, 0x6162, 2);
        Trusts.consents(trust, open, 0, 1);
        trust.object(open, 4);
        Trusts.consents(trust, sealed, 0, 1, 2);
        trust.join(sealed);
        trust.suspend(3, true);
        Check.acts("12 a below 0", ILLEGAL, () -> trust.refresh(-1, 1));
        Check.acts("12 b below 0", ILLEGAL, () -> trust.refresh(1, -1));
        Check.due("12 refused, the epoch", 0, () -> trust.state(1));
        Check.due("12 refused, partials stay", 3, () -> trust.told(open, 2));
        int[][] added = {{9, 9}, {MANY, MANY}, {0, 0}, {MANY, 0}, {0, MANY}};
        for (int i = 0; i < added.length; i++) {
            int[] ab = added[i];
            Check.acts("12 refresh " + i, FINE, () -> trust.refresh(ab[0], ab[1]));
            model.refresh(ab[0], ab[1]);
            for (int what : new int[] {0, 1, 5, 6, 7, 8, 9, 10}) {
                Check.due("12 state " + what + " after " + i, trust.state(what), model.state(what));
            }
        }
        Check.due("12 open partials are gone", 0, () -> trust.told(open, 2));
        Check.due("12 objections stay", 16, () -> trust.told(open, 3));
        Check.due("12 a sealed one keeps its partials", 7, () -> trust.told(sealed, 2));
        Check.due("12 and its signature", 177153730, () -> trust.told(sealed, 4));
        Check.due("12 suspended seats stay", 8, () -> trust.state(3));
        Check.acts("12 who objected has a voice", STATE, () -> trust.consent(open, 4));
        Check.acts("12 who consented can object", FINE, () -> trust.object(open, 0));
        Trusts.consents(trust, open, 1, 2, 5);
        model.put(0x6162, 2);
        model.motion();
        Check.due("12 r has the epoch", model.honest(0, 5).z(), () -> trust.partial(open, 5, 2));
        Check.due("12 no signature changes", 177153730, () -> trust.join(open));
    }

    private static void promise13() {
        SealTrust trust = new SealTrust();
        Check.state("13 no key", () -> trust.suspend(0, true));
        Check.none("13 no such trustee and no key", () -> trust.suspend(6, true));
        trust.deal(23, 47, 5, 7, 3);
        for (int trustee : NO_TRUSTEES) {
            Check.none("13 trustee " + trustee, () -> trust.suspend(trustee, true));
        }
        Check.due("13 not suspended", false, () -> trust.suspend(0, false));
        for (int i = 0; i < 6; i++) {
            int trustee = i;
            Check.due("13 suspended " + i, true, () -> trust.suspend(trustee, true));
            Check.due("13 again " + i, false, () -> trust.suspend(trustee, true));
            Check.due("13 seats " + i, (2 << i) - 1, () -> trust.state(3));
        }
        Check.due("13 no more", true, () -> trust.suspend(2, false));
        Check.due("13 no more, again", false, () -> trust.suspend(2, false));
        Check.due("13 all but one", 59, () -> trust.state(3));
    }

    private static void promise14() {
        Check.state("14 no key", () -> new SealTrust().parts(7));
        Check.illegal("14 not three and no key", () -> new SealTrust().parts(3));
        int[][] keys = {{23, 47, 5, 7, 3}, {32507, 32603, MANY, MANY, 2}, {10007, 23, 0, 0, 5}};
        for (int[] k : keys) {
            SealTrust trust = new SealTrust();
            trust.deal(k[0], k[1], k[2], k[3], k[4]);
            for (int mask = -70; mask < 140; mask++) {
                int asked = mask;
                boolean three = mask >= 0 && mask < 64 && Integer.bitCount(mask) == 3;
                Check.due("14 parts " + mask, three ? "true" : ILLEGAL, () -> trust.parts(asked));
            }
            trust.refresh(MANY, 77);
            Check.due("14 after a refreshing", true, () -> trust.parts(0b101001));
        }
        Check.illegal("14 three bits beyond", () -> Trusts.small().parts(7 << 29));
        Check.illegal("14 all bits", () -> Trusts.small().parts(-1));
    }

    private static void promise15() {
        SealTrust trust = Trusts.large();
        Check.none("15 no motion", () -> trust.told(0, 0));
        int motion = Trusts.move(trust, 0x6162, 2);
        for (int what : new int[] {-1, 5, MANY}) {
            Check.illegal("15 what " + what, () -> trust.told(motion, what));
        }
        Check.none("15 no such motion, and no such what", () -> trust.told(1, 9));
        Check.none("15 motion -1", () -> trust.told(-1, 0));
        long[] due = {0, 157466736, 0, 0, 0};
        tells(trust, motion, "at first", due);
        Trusts.consents(trust, motion, 0, 5);
        trust.object(motion, 1);
        tells(trust, motion, "with voices", new long[] {0, 157466736, 33, 2, 0});
        trust.consent(motion, 3);
        trust.join(motion);
        tells(trust, motion, "sealed", new long[] {1, 157466736, 41, 2, 177153730});
        int closed = Trusts.move(trust, 0x6261, 2);
        trust.object(closed, 0);
        trust.object(closed, 1);
        trust.consent(closed, 5);
        trust.object(closed, 2);
        tells(trust, closed, "closed", new long[] {2, 4656916, 32, 7, 0});
    }

    private static void tells(SealTrust trust, int motion, String when, long[] due) {
        for (int what = 0; what < 5; what++) {
            int asked = what;
            Check.due("15 " + when + " " + what, due[what], () -> trust.told(motion, asked));
        }
    }

    private static void promise16() {
        SealTrust trust = Trusts.large();
        Check.due("16 empty", -1, () -> trust.book(0));
        Check.illegal("16 -1", () -> trust.book(-1));
        Check.illegal("16 the least", () -> trust.book(Integer.MIN_VALUE));
        for (int i = 0; i < 12; i++) {
            Trusts.consents(trust, Trusts.move(trust, i, 1), i % 4, 4, 5);
        }
        int[] order = {5, 0, 11, 3, 1, 2, 10, 9, 8, 7, 6, 4};
        for (int i = 0; i < 12; i++) {
            trust.join(order[i]);
            int last = i;
            Check.due("16 the last one", order[i], () -> trust.book(last));
            Check.due("16 fewer were", -1, () -> trust.book(last + 1));
            Check.due("16 the first one stays", 5, () -> trust.book(0));
        }
        Check.due("16 the greatest", -1, () -> trust.book(MANY));
    }

    private static void promise17() {
        SealTrust trust = new SealTrust();
        for (int what : new int[] {-1, 11, Integer.MIN_VALUE, MANY}) {
            Check.illegal("17 what " + what, () -> trust.state(what));
        }
        trust.put(0, 3);
        Check.due("17 bytes without a key", 3, () -> trust.state(4));
        Check.due("17 N without a key", 0, () -> trust.state(0));
        trust.deal(10007, 20123, 123456, 654321, 777);
        trust.suspend(5, true);
        trust.suspend(0, true);
        trust.refresh(9, 9);
        trust.refresh(1, 0);
        trust.motion();
        trust.put(0, 2);
        Model model = largeModel();
        model.refresh(10, 9);
        long[] due = {10007L * 20123L, 2, 1, 33, 2};
        for (int what = 0; what <= 10; what++) {
            int asked = what;
            Check.due("17 state " + what, what < 5 ? due[what] : model.check(what - 5), () -> trust.state(asked));
        }
        Check.illegal("17 what 11 with a key", () -> trust.state(11));
    }
}
