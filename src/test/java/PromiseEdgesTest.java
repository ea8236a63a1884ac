import java.util.Arrays;

/** Every edge that the document's promises name: the last value that is allowed and the first one that is not. */
public final class PromiseEdgesTest {
    private static final int MANY = Integer.MAX_VALUE;
    private static final int LEAST = Integer.MIN_VALUE;
    private static final int N = Trusts.SMALL_N;

    // 32 and 64 would be the first trustee again, were they used as shifts without a look.
    private static final int[] NO_TRUSTEES = {-1, 6, 7, 31, 32, 37, 64, -32, MANY, LEAST};
    private static final int[] NO_MOTIONS = {-1, 4, 5, 12, 13, MANY, LEAST};

    private static final Edges EDGES = new Edges("Promise");

    public static void main(String[] args) {
        aNewObject();
        deal();
        put();
        motion();
        consent();
        object();
        file();
        partial();
        bad();
        join();
        verify();
        refresh();
        suspend();
        parts();
        told();
        book();
        state();
        EDGES.end("PromiseEdgesTest");
    }

    /** A call of a motion is refused for every number that is none, and without a key, and after a new deal. */
    private static void noSuchMotion(String name, OfMotion call) {
        for (int number : NO_MOTIONS) {
            Edges.refused(Edges.NONE, Trusts::busy, name + " of motion " + number, t -> call.on(t, number));
        }
        Edges.refused(Edges.NONE, Trusts::full, name + " of motion 12", t -> call.on(t, 12));
        Edges.refused(Edges.NONE, SealTrust::new, name + " without a key", t -> call.on(t, 0));
        Edges.refused(Edges.NONE, PromiseEdgesTest::dealtAnew, name + " of an old motion", t -> call.on(t, 0));
    }

    private static void noSuchTrustee(String name, OfTrustee call) {
        for (int trustee : NO_TRUSTEES) {
            for (int number = 0; number < 4; number++) {
                int motion = number;
                Edges.refused(Edges.NONE, Trusts::busy, name + " of motion " + motion + ", trustee " + trustee,
                        t -> call.on(t, motion, trustee));
            }
        }
        noSuchMotion(name, (t, motion) -> call.on(t, motion, 4));
    }

    private interface OfMotion {
        void on(SealTrust trust, int motion);
    }

    private interface OfTrustee {
        void on(SealTrust trust, int motion, int trustee);
    }

    private static SealTrust dealtAnew() {
        SealTrust trust = Trusts.busy();
        trust.deal(47, 23, 1, 2, 3);
        return trust;
    }

    /** A call that any trustee can make on a motion without voices, first and last of both. */
    private static void everyTrustee(String name, OfTrustee call) {
        for (int i = 0; i < 6; i++) {
            int trustee = i;
            for (int motion : new int[] {0, 11}) {
                Edges.allowed(Trusts::full, name + " of motion " + motion + ", trustee " + i,
                        t -> call.on(t, motion, trustee));
            }
        }
    }

    private static void notOpen(String name, OfTrustee call) {
        Edges.refused(Edges.STATE, Trusts::busy, name + " of a sealed motion", t -> call.on(t, 1, 4));
        Edges.refused(Edges.STATE, Trusts::busy, name + " of a closed motion", t -> call.on(t, 2, 1));
        Edges.refused(Edges.STATE, Trusts::busy, name + " of a closed motion, has a partial", t -> call.on(t, 2, 0));
        Edges.allowed(Trusts::busy, name + " of an open motion", t -> call.on(t, 0, 4));
        Edges.allowed(Trusts::busy, name + " of an open motion whose block is not prime", t -> call.on(t, 3, 4));
    }

    private static void aNewObject() {
        EDGES.in("Promise 1");
        EDGES.sentence("No key, an empty buffer, no motions.", () -> {
            for (int what = 0; what <= 10; what++) {
                int asked = what;
                Edges.answers(0, SealTrust::new, "state " + what, t -> t.state(asked));
            }
            Edges.answers(-1, SealTrust::new, "book", t -> t.book(0));
            Edges.refused(Edges.STATE, SealTrust::new, "motion", SealTrust::motion);
            Edges.refused(Edges.NONE, SealTrust::new, "told", t -> t.told(0, 0));
            Edges.answers(1, SealTrust::new, "put", t -> t.put(0, 1));
            Edges.allowed(SealTrust::new, "deal", t -> t.deal(23, 47, 0, 0, 2));
        });
    }

    private static void deal() {
        EDGES.in("Promise 2");
        EDGES.sentence("the epoch is 0, no seat is suspended, motions and the book are empty", () -> {
            Edges.answers(0, PromiseEdgesTest::dealtAnew, "epoch", t -> t.state(1));
            Edges.answers(0, PromiseEdgesTest::dealtAnew, "motions", t -> t.state(2));
            Edges.answers(0, PromiseEdgesTest::dealtAnew, "suspended", t -> t.state(3));
            Edges.answers(-1, PromiseEdgesTest::dealtAnew, "book", t -> t.book(0));
            Edges.answers(0, PromiseEdgesTest::dealtAnew, "the next motion", SealTrust::motion);
            Edges.answers(Edges.everything(dealtAnew()), PromiseEdgesTest::freshWithBuffer, "as a new object",
                    Edges::everything);
            SealTrust again = dealtAnew();
            for (int motion = 0; motion < 4; motion++) {
                int asked = motion;
                Trusts.move(again, 7, 1);
                for (int what : new int[] {0, 2, 3, 4}) {
                    Check.due("motion " + motion + " in an old one's place, " + what, 0, () -> again.told(asked, what));
                }
            }
        });
        EDGES.sentence("p or q is not as said", PromiseEdgesTest::primes);
        EDGES.sentence("or they are the same", () -> {
            Edges.refused(Edges.ILLEGAL, Trusts::busy, "23 twice", t -> t.deal(23, 23, 1, 1, 2));
            Edges.refused(Edges.ILLEGAL, Trusts::busy, "32603 twice", t -> t.deal(32603, 32603, 1, 1, 2));
            Edges.allowed(Trusts::busy, "the next ones", t -> t.deal(32603, 32507, 1, 1, 2));
            Edges.allowed(Trusts::busy, "the same key again", t -> t.deal(23, 47, 5, 7, 3));
        });
        EDGES.sentence("a or b is below 0", () -> {
            for (int below : new int[] {-1, LEAST}) {
                Edges.refused(Edges.ILLEGAL, Trusts::busy, "a " + below, t -> t.deal(23, 47, below, 0, 2));
                Edges.refused(Edges.ILLEGAL, Trusts::busy, "b " + below, t -> t.deal(23, 47, 0, below, 2));
                Edges.refused(Edges.ILLEGAL, SealTrust::new, "no key yet", t -> t.deal(23, 47, below, below, 2));
            }
            for (int not : new int[] {0, 1, MANY}) {
                Edges.allowed(Trusts::busy, "a " + not, t -> t.deal(23, 47, not, 0, 2));
                Edges.allowed(Trusts::busy, "b " + not, t -> t.deal(23, 47, 0, not, 2));
            }
        });
        EDGES.sentence("base is not 2 .. N - 2", PromiseEdgesTest::bases);
        EDGES.sentence("or not prime to N", PromiseEdgesTest::basesNotPrime);
    }

    private static SealTrust freshWithBuffer() {
        SealTrust trust = Trusts.dealt(47, 23, 1, 2, 3);
        trust.put(0x616263, 3);
        return trust;
    }

    private static void primes() {
        for (int wrong : new int[] {11, 22, 24, 32602, 32604, 32767, 32843, -47}) {
            Edges.refused(Edges.ILLEGAL, SealTrust::new, "p " + wrong, t -> t.deal(wrong, 59, 1, 1, 2));
            Edges.refused(Edges.ILLEGAL, SealTrust::new, "q " + wrong, t -> t.deal(59, wrong, 1, 1, 2));
            Edges.refused(Edges.ILLEGAL, Trusts::busy, "both " + wrong, t -> t.deal(wrong, wrong, 1, 1, 2));
        }
        for (int right : new int[] {23, 32603}) {
            Edges.allowed(SealTrust::new, "p " + right, t -> t.deal(right, 59, 1, 1, 2));
            Edges.allowed(SealTrust::new, "q " + right, t -> t.deal(59, right, 1, 1, 2));
        }
    }

    private static void bases() {
        for (int[] pq : new int[][] {{23, 47}, {47, 23}, {32507, 32603}, {23, 32603}}) {
            int n = pq[0] * pq[1];
            for (int base : new int[] {LEAST, -2, -1, 0, 1, n - 1, n, n + 1, n + 2, MANY}) {
                Edges.refused(Edges.ILLEGAL, Trusts::busy, "base " + base + " by " + n,
                        t -> t.deal(pq[0], pq[1], 1, 1, base));
            }
            for (int base : new int[] {2, 3, n - 3, n - 2}) {
                Edges.allowed(Trusts::busy, "base " + base + " by " + n, t -> t.deal(pq[0], pq[1], 1, 1, base));
            }
        }
    }

    private static void basesNotPrime() {
        for (int base = 2; base <= N - 2; base++) {
            int asked = base;
            boolean prime = base % 23 != 0 && base % 47 != 0;
            Check.acts("base " + base, prime ? "nothing" : Edges.ILLEGAL,
                    () -> new SealTrust().deal(23, 47, 1, 1, asked));
        }
        int p = Trusts.LARGEST_P;
        int q = Trusts.LARGEST_Q;
        for (int divided : new int[] {p, q, 2 * p, p * (q - 1), q * (p - 1)}) {
            for (int next = -1; next <= 1; next++) {
                int base = divided + next;
                if (next == 0) {
                    Edges.refused(Edges.ILLEGAL, Trusts::busy, "base " + base, t -> t.deal(p, q, 1, 1, base));
                } else {
                    Edges.allowed(Trusts::busy, "base " + base, t -> t.deal(p, q, 1, 1, base));
                }
            }
        }
    }

    private static void put() {
        EDGES.in("Promise 3");
        EDGES.sentence("the n (1 .. 4) lowest ones of word, the highest first: how many are there", () -> {
            int[] bytes = {0xFE, 0xDC, 0xBA, 0x98};
            for (int n = 1; n <= 4; n++) {
                SealTrust trust = Trusts.small();
                int asked = n;
                Check.due("put of " + n, n, () -> trust.put(0xFEDCBA98, asked));
                trust.motion();
                int[] lowest = Arrays.copyOfRange(bytes, 4 - n, 4);
                Check.due("the lowest " + n, Model.blockOf(N, lowest), () -> trust.told(0, 1));
            }
        });
        EDGES.sentence("another n", () -> {
            for (int n : new int[] {LEAST, -4, -1, 0, 5, 6, 24, 25, 257, MANY}) {
                Edges.refused(Edges.ILLEGAL, Trusts::busy, "put of " + n, t -> t.put(0x01020304, n));
                Edges.refused(Edges.ILLEGAL, SealTrust::new, "put of " + n + " at first", t -> t.put(0x01020304, n));
            }
            for (int n = 1; n <= 4; n++) {
                int asked = n;
                Edges.answers(3 + n, Trusts::busy, "put of " + n, t -> t.put(0x01020304, asked));
                Edges.answers(n, SealTrust::new, "put of " + n + " at first", t -> t.put(0x01020304, asked));
            }
        });
        EDGES.sentence("or there would be more than 24", PromiseEdgesTest::putsBeyond);
    }

    private static SealTrust withBytes(int count) {
        SealTrust trust = Trusts.small();
        for (int i = 0; i < count; i++) {
            trust.put(i + 1, 1);
        }
        return trust;
    }

    private static void putsBeyond() {
        for (int count = 0; count <= 24; count++) {
            int there = count;
            for (int n = 1; n <= 4; n++) {
                int more = n;
                String call = n + " more than " + count;
                if (count + n <= 24) {
                    Edges.answers(count + n, () -> withBytes(there), call, t -> t.put(-1, more));
                } else {
                    Edges.refused(Edges.ILLEGAL, () -> withBytes(there), call, t -> t.put(-1, more));
                }
            }
        }
    }

    private static void motion() {
        EDGES.in("Promise 4");
        EDGES.sentence("The buffer becomes a motion's document, and is empty: its number", () -> {
            SealTrust trust = withBytes(24);
            Check.due("the first number", 0, trust::motion);
            Check.due("the buffer is empty", 0, () -> trust.state(4));
            Check.due("all bytes can come again", 4, () -> trust.put(0, 4));
        });
        EDGES.sentence("no key", () -> {
            Edges.refused(Edges.STATE, () -> bytesWithoutKey(1), "one byte", SealTrust::motion);
            Edges.refused(Edges.STATE, () -> bytesWithoutKey(24), "24 bytes", SealTrust::motion);
            Edges.answers(0, () -> withBytes(1), "one byte and a key", SealTrust::motion);
        });
        EDGES.sentence("an empty buffer", () -> {
            Edges.refused(Edges.STATE, Trusts::small, "at first", SealTrust::motion);
            Edges.refused(Edges.STATE, Trusts::moved, "after a motion", SealTrust::motion);
            Edges.refused(Edges.STATE, SealTrust::new, "without a key too", SealTrust::motion);
            Edges.answers(4, Trusts::busy, "three bytes", SealTrust::motion);
        });
        EDGES.sentence("or there are twelve motions", PromiseEdgesTest::twelveMotions);
    }

    private static SealTrust bytesWithoutKey(int count) {
        SealTrust trust = new SealTrust();
        for (int i = 0; i < count; i++) {
            trust.put(i, 1);
        }
        return trust;
    }

    private static void twelveMotions() {
        SealTrust trust = Trusts.small();
        for (int i = 0; i < 12; i++) {
            trust.put(i, 1);
            Check.due("motion " + i, i, trust::motion);
        }
        Edges.refused(Edges.STATE, Trusts::full, "a thirteenth", SealTrust::motion);
        Edges.refused(Edges.STATE, PromiseEdgesTest::fullAndEnded, "a thirteenth, none is open", SealTrust::motion);
        SealTrust again = Trusts.full();
        again.deal(23, 47, 1, 1, 2);
        Check.due("the first of a new key", 0, again::motion);
    }

    /** Twelve motions, sealed and closed ones by turns. */
    private static SealTrust fullAndEnded() {
        SealTrust trust = Trusts.full();
        for (int motion = 0; motion < 12; motion++) {
            for (int trustee = 0; trustee < 3; trustee++) {
                if (motion % 2 == 0) {
                    trust.consent(motion, trustee);
                } else {
                    trust.object(motion, trustee);
                }
            }
            if (motion % 2 == 0) {
                trust.join(motion);
            }
        }
        return trust;
    }

    private static void consent() {
        EDGES.in("Promise 5");
        EDGES.sentence("no such motion or trustee", () -> {
            noSuchTrustee("consent", SealTrust::consent);
            everyTrustee("consent", SealTrust::consent);
        });
        EDGES.sentence("the motion is not open", () -> notOpen("consent", SealTrust::consent));
        EDGES.sentence("the trustee is suspended", () -> {
            Edges.refused(Edges.STATE, Trusts::busy, "suspended", t -> t.consent(0, 5));
            Edges.allowed(Trusts::busy, "the next one is not", t -> t.consent(0, 4));
            Edges.allowed(Trusts::busy, "no more", t -> {
                t.suspend(5, false);
                t.consent(0, 5);
            });
            Edges.allowed(PromiseEdgesTest::dealtAnew, "not by a new key", t -> {
                t.motion();
                t.consent(0, 5);
            });
        });
        EDGES.sentence("or has a voice on it", () -> {
            Edges.refused(Edges.STATE, Trusts::busy, "consented", t -> t.consent(0, 0));
            Edges.refused(Edges.STATE, Trusts::busy, "objected", t -> t.consent(0, 2));
            Edges.refused(Edges.STATE, Trusts::busy, "filed", t -> t.consent(0, 3));
            Edges.allowed(Trusts::busy, "no voice yet", t -> t.consent(0, 4));
            Edges.allowed(Trusts::busy, "a voice on another motion", t -> t.consent(3, 3));
            Edges.allowed(Trusts::busy, "the partial is gone", t -> {
                t.refresh(0, 0);
                t.consent(0, 0);
            });
        });
    }

    private static void object() {
        EDGES.in("Promise 6");
        EDGES.sentence("A trustee objects, likewise (also one that is suspended).", () -> {
            noSuchTrustee("object", SealTrust::object);
            everyTrustee("object", SealTrust::object);
            notOpen("object", SealTrust::object);
            Edges.allowed(Trusts::busy, "suspended", t -> t.object(0, 5));
            Edges.refused(Edges.STATE, Trusts::busy, "suspended, of a closed motion", t -> t.object(2, 5));
            Edges.refused(Edges.STATE, Trusts::busy, "consented", t -> t.object(0, 0));
            Edges.refused(Edges.STATE, Trusts::busy, "objected", t -> t.object(0, 2));
            Edges.refused(Edges.STATE, Trusts::busy, "filed", t -> t.object(0, 3));
            Edges.refused(Edges.STATE, PromiseEdgesTest::suspendedAfter, "consented, then suspended",
                    t -> t.object(0, 0));
        });
    }

    private static SealTrust suspendedAfter() {
        SealTrust trust = Trusts.busy();
        trust.suspend(0, true);
        return trust;
    }

    private static void file() {
        EDGES.in("Promise 7");
        EDGES.sentence("Files a partial for a trustee, whatever it is; one that is there is replaced",
                PromiseEdgesTest::anyPartial);
        EDGES.sentence("no such motion or trustee", () -> {
            noSuchTrustee("file", (t, motion, trustee) -> t.file(motion, trustee, 1, 1, 1));
            everyTrustee("file", (t, motion, trustee) -> t.file(motion, trustee, 1, 1, 1));
        });
        EDGES.sentence("the motion is not open",
                () -> notOpen("file", (t, motion, trustee) -> t.file(motion, trustee, 1, 1, 1)));
        EDGES.sentence("or the trustee objected", () -> {
            Edges.refused(Edges.STATE, Trusts::busy, "objected", t -> t.file(0, 2, 1, 1, 1));
            Edges.allowed(Trusts::busy, "consented", t -> t.file(0, 1, 1, 1, 1));
            Edges.allowed(Trusts::busy, "filed", t -> t.file(0, 3, 1, 1, 1));
            Edges.allowed(Trusts::busy, "no voice", t -> t.file(0, 4, 1, 1, 1));
            Edges.allowed(Trusts::busy, "suspended", t -> t.file(0, 5, 1, 1, 1));
            Edges.allowed(Trusts::busy, "objected on another motion", t -> t.file(3, 2, 1, 1, 1));
        });
    }

    private static void anyPartial() {
        long[] longs = {Long.MIN_VALUE, -1, 0, 1, N - 1, N, 1L << 32, Long.MAX_VALUE};
        int[] ints = {LEAST, -1, 0, 1, 65535, 65536, 1 << 16, MANY};
        SealTrust trust = Trusts.busy();
        for (int i = 0; i < longs.length; i++) {
            int at = i;
            for (int filed = 0; filed < 6; filed++) {
                int trustee = filed;
                // The one that objected is no trustee of this loop's.
                if (trustee != 2) {
                    long z = longs[longs.length - 1 - i];
                    Check.acts("file", "nothing", () -> trust.file(0, trustee, longs[at], ints[at], z));
                    Check.due("power " + longs[i], longs[i], () -> trust.partial(0, trustee, 0));
                    Check.due("c " + ints[i], ints[i], () -> trust.partial(0, trustee, 1));
                    Check.due("z " + z, z, () -> trust.partial(0, trustee, 2));
                }
            }
        }
        Check.due("voices are as many as trustees", 0b111011, () -> trust.told(0, 2));
    }

    private static void partial() {
        EDGES.in("Promise 8");
        EDGES.sentence("no such motion or trustee", () -> {
            noSuchTrustee("partial", (t, motion, trustee) -> t.partial(motion, trustee, 0));
            noSuchTrustee("partial, no such what", (t, motion, trustee) -> t.partial(motion, trustee, 3));
            everyTrustee("partial", (t, motion, trustee) -> {
                t.consent(motion, trustee);
                t.partial(motion, trustee, 0);
            });
        });
        EDGES.sentence("or none is filed", () -> {
            Edges.refused(Edges.NONE, Trusts::busy, "no voice", t -> t.partial(0, 4, 0));
            Edges.refused(Edges.NONE, Trusts::busy, "objected", t -> t.partial(0, 2, 0));
            Edges.refused(Edges.NONE, Trusts::busy, "no voice on the sealed one", t -> t.partial(1, 3, 0));
            Edges.refused(Edges.NONE, Trusts::busy, "objected to the closed one", t -> t.partial(2, 3, 0));
            Edges.refused(Edges.NONE, PromiseEdgesTest::refreshed, "gone", t -> t.partial(0, 0, 0));
            Edges.answers(99, Trusts::busy, "filed", t -> t.partial(0, 3, 0));
            Edges.allowed(Trusts::busy, "filed on the sealed one", t -> t.partial(1, 2, 0));
            Edges.allowed(Trusts::busy, "filed on the closed one", t -> t.partial(2, 0, 0));
            Edges.allowed(PromiseEdgesTest::refreshed, "not gone on the sealed one", t -> t.partial(1, 2, 0));
        });
        EDGES.sentence("no such what", () -> {
            for (int what : new int[] {LEAST, -1, 3, 4, MANY}) {
                Edges.refused(Edges.ILLEGAL, Trusts::busy, "what " + what, t -> t.partial(0, 3, what));
            }
            for (int what = 0; what <= 2; what++) {
                int asked = what;
                Edges.answers(99 - what, Trusts::busy, "what " + what, t -> t.partial(0, 3, asked));
            }
        });
    }

    private static SealTrust refreshed() {
        SealTrust trust = Trusts.busy();
        trust.refresh(1, 1);
        return trust;
    }

    private static void bad() {
        EDGES.in("Promise 9");
        EDGES.sentence("(by the checks as they are now, also of a motion that is not open)", () -> {
            int[] before = {8, 0, 0, 7};
            int[] after = {0, 7, 1, 0};
            for (int motion = 0; motion < 4; motion++) {
                int asked = motion;
                Edges.answers(before[motion], Trusts::busy, "bad of " + motion, t -> t.bad(asked));
                Edges.answers(after[motion], PromiseEdgesTest::refreshed, "bad of " + motion + " refreshed",
                        t -> t.bad(asked));
            }
            SealTrust back = refreshed();
            back.refresh(Trusts.SMALL_M - 1, Trusts.SMALL_M - 1);
            Check.due("the checks are as they were", 0, () -> back.bad(1));
        });
        EDGES.sentence("as bits", () -> {
            for (int mask = 0; mask < 64; mask++) {
                SealTrust trust = Trusts.moved();
                for (int trustee = 0; trustee < 6; trustee++) {
                    trust.consent(0, trustee);
                    if ((mask >> trustee & 1) == 1) {
                        trust.file(0, trustee, 3, 4, 5);
                    }
                }
                Check.due("bad of " + mask, mask, () -> trust.bad(0));
            }
        });
        EDGES.sentence("no such motion", () -> {
            noSuchMotion("bad", SealTrust::bad);
            Edges.answers(0, Trusts::full, "bad of the first", t -> t.bad(0));
            Edges.answers(0, Trusts::full, "bad of the twelfth", t -> t.bad(11));
        });
    }

    private static void join() {
        EDGES.in("Promise 10");
        EDGES.sentence("no such motion", () -> {
            noSuchMotion("join", SealTrust::join);
            for (int motion : new int[] {0, 11}) {
                Edges.allowed(Trusts::full, "join of " + motion, t -> {
                    Trusts.consents(t, motion, 3, 4, 5);
                    t.join(motion);
                });
            }
        });
        EDGES.sentence("it is not open", () -> {
            Edges.refused(Edges.STATE, Trusts::busy, "sealed", t -> t.join(1));
            Edges.refused(Edges.STATE, Trusts::busy, "closed", t -> t.join(2));
            Edges.refused(Edges.STATE, PromiseEdgesTest::closedAgainstThree, "closed with three partials",
                    t -> t.join(0));
            Edges.refused(Edges.STATE, PromiseEdgesTest::closedNotPrime, "closed, and not prime", t -> t.join(3));
            Edges.answers(159, PromiseEdgesTest::openAgainstThree, "open with three partials", t -> t.join(0));
        });
        EDGES.sentence("or has fewer than three good partials", () -> {
            Edges.refused(Edges.STATE, Trusts::moved, "none", t -> t.join(0));
            Edges.refused(Edges.STATE, Trusts::busy, "two and a bad one", t -> t.join(0));
            Edges.answers(159, Trusts::busy, "three and a bad one", t -> {
                t.consent(0, 4);
                return t.join(0);
            });
            Edges.answers(159, Trusts::busy, "the bad one is replaced", t -> {
                t.file(0, 3, 1, 1, 1);
                replaceByHonest(t, 3);
                return t.join(0);
            });
            Edges.refused(Edges.STATE, PromiseEdgesTest::refreshed, "gone", t -> t.join(0));
        });
        EDGES.sentence("its block is not prime to N (before the partials are looked at)",
                PromiseEdgesTest::joinsNotPrime);
    }

    /** What the trustee would have made itself, from an object of the same kind on which it has no voice. */
    private static void replaceByHonest(SealTrust trust, int trustee) {
        SealTrust other = Trusts.small();
        other.refresh(9, 4);
        Trusts.move(other, 0x54686973, 4);
        other.consent(0, trustee);
        trust.file(0, trustee, other.partial(0, trustee, 0), (int) other.partial(0, trustee, 1),
                other.partial(0, trustee, 2));
    }

    private static SealTrust openAgainstThree() {
        SealTrust trust = Trusts.moved();
        Trusts.consents(trust, 0, 0, 1, 2);
        trust.object(0, 3);
        trust.object(0, 4);
        return trust;
    }

    private static SealTrust closedAgainstThree() {
        SealTrust trust = openAgainstThree();
        trust.object(0, 5);
        return trust;
    }

    private static SealTrust closedNotPrime() {
        SealTrust trust = Trusts.busy();
        for (int trustee = 3; trustee < 6; trustee++) {
            trust.object(3, trustee);
        }
        return trust;
    }

    private static SealTrust withBlock(long block, int consents) {
        SealTrust trust = Trusts.small();
        Trusts.move(trust, Trusts.wordWithBlock(block), 2);
        for (int trustee = 0; trustee < consents; trustee++) {
            trust.consent(0, trustee);
        }
        return trust;
    }

    private static void joinsNotPrime() {
        Edges.refused(Edges.ARITHMETIC, Trusts::busy, "three partials", t -> t.join(3));
        for (int block : new int[] {23, 46, 47, N - 47, N - 23}) {
            for (int consents : new int[] {0, 2, 3, 6}) {
                Edges.refused(Edges.ARITHMETIC, () -> withBlock(block, consents),
                        "block " + block + ", " + consents + " partials", t -> t.join(0));
            }
        }
        for (int block : new int[] {2, 22, 24, 45, 48, N - 48, N - 22, N - 2}) {
            Edges.refused(Edges.STATE, () -> withBlock(block, 2), "block " + block, t -> t.join(0));
            Edges.allowed(() -> withBlock(block, 3), "block " + block, t -> t.join(0));
        }
    }

    private static void verify() {
        EDGES.in("Promise 11");
        EDGES.sentence("Whether a number (of 0 .. N - 1) is the signature of the buffer's document, which stays",
                PromiseEdgesTest::numbersToVerify);
        EDGES.sentence("no key", () -> {
            Edges.refused(Edges.STATE, () -> bytesWithoutKey(1), "one byte", t -> t.verify(1));
            Edges.answers(false, () -> withBytes(1), "one byte and a key", t -> t.verify(1));
        });
        EDGES.sentence("or an empty buffer", () -> {
            Edges.refused(Edges.STATE, Trusts::small, "at first", t -> t.verify(1));
            Edges.refused(Edges.STATE, Trusts::moved, "after a motion", t -> t.verify(159));
            Edges.refused(Edges.STATE, SealTrust::new, "without a key too", t -> t.verify(1));
            Edges.answers(false, () -> withBytes(24), "24 bytes", t -> t.verify(1));
        });
    }

    private static SealTrust buffered(long block) {
        SealTrust trust = Trusts.small();
        trust.put(Trusts.wordWithBlock(block), 2);
        return trust;
    }

    /** 2 and N - 2 are the least and the greatest signature that a block can have. */
    private static void numbersToVerify() {
        for (long y : new long[] {2, N - 2}) {
            long block = Model.big(y).modPow(Model.big(65537), Model.big(N)).longValueExact();
            Edges.answers(true, () -> buffered(block), "verify " + y, t -> t.verify(y));
            long[] others = {0, 1, N - y, N - 1, N, N + 1, y + N, y - N, -y, -1, y + (1L << 32), y + (1L << 32) * N,
                Long.MAX_VALUE, Long.MIN_VALUE, y | Long.MIN_VALUE};
            for (long other : others) {
                Edges.answers(false, () -> buffered(block), "verify " + other + " for " + y, t -> t.verify(other));
            }
            SealTrust trust = buffered(block);
            trust.verify(y);
            trust.verify(-1);
            Check.due("the document stays", Edges.everything(trust), Edges.everything(buffered(block)));
        }
    }

    private static void refresh() {
        EDGES.in("Promise 12");
        EDGES.sentence("a or b is below 0", () -> {
            for (int below : new int[] {-1, LEAST}) {
                Edges.refused(Edges.ILLEGAL, Trusts::busy, "a " + below, t -> t.refresh(below, 0));
                Edges.refused(Edges.ILLEGAL, Trusts::busy, "b " + below, t -> t.refresh(0, below));
                Edges.refused(Edges.ILLEGAL, Trusts::busy, "both " + below, t -> t.refresh(below, below));
            }
            for (int not : new int[] {0, 1, MANY}) {
                Edges.allowed(Trusts::busy, "a " + not, t -> t.refresh(not, 0));
                Edges.allowed(Trusts::busy, "b " + not, t -> t.refresh(0, not));
            }
        });
        EDGES.sentence("no key", () -> {
            Edges.refused(Edges.STATE, SealTrust::new, "at first", t -> t.refresh(0, 0));
            Edges.refused(Edges.STATE, () -> bytesWithoutKey(1), "with a byte", t -> t.refresh(1, 1));
            Edges.allowed(Trusts::small, "with a key", t -> t.refresh(0, 0));
        });
    }

    private static void suspend() {
        EDGES.in("Promise 13");
        EDGES.sentence("A seat is suspended, or no more: whether it was another way", () -> {
            for (int i = 0; i < 6; i++) {
                int trustee = i;
                SealTrust trust = Trusts.small();
                Check.due("not yet, no more", false, () -> trust.suspend(trustee, false));
                Check.due("suspended", true, () -> trust.suspend(trustee, true));
                Check.due("again", false, () -> trust.suspend(trustee, true));
                Check.due("the seat", 1 << i, () -> trust.state(3));
                Check.due("no more", true, () -> trust.suspend(trustee, false));
                Check.due("no more, again", false, () -> trust.suspend(trustee, false));
                Check.due("no seat", 0, () -> trust.state(3));
            }
        });
        EDGES.sentence("no such trustee", () -> {
            for (int trustee : NO_TRUSTEES) {
                Edges.refused(Edges.NONE, Trusts::busy, "trustee " + trustee, t -> t.suspend(trustee, true));
                Edges.refused(Edges.NONE, Trusts::busy, "trustee " + trustee, t -> t.suspend(trustee, false));
            }
            Edges.answers(true, Trusts::busy, "trustee 0", t -> t.suspend(0, true));
            Edges.answers(true, Trusts::busy, "trustee 5", t -> t.suspend(5, false));
        });
        EDGES.sentence("no key", () -> {
            Edges.refused(Edges.STATE, SealTrust::new, "at first", t -> t.suspend(0, true));
            Edges.refused(Edges.STATE, SealTrust::new, "at first", t -> t.suspend(5, false));
            Edges.answers(true, Trusts::small, "with a key", t -> t.suspend(5, true));
        });
    }

    private static void parts() {
        EDGES.in("Promise 14");
        EDGES.sentence("the sum over them of part i times 720 times the product, over the two others j, of"
                + " (j + 1) / (j - i) (whole numbers)", PromiseEdgesTest::wholeByParts);
        EDGES.sentence("not three of the six", () -> {
            for (int mask = 0; mask < 128; mask++) {
                int asked = mask;
                if (mask < 64 && Integer.bitCount(mask) == 3) {
                    Edges.answers(true, Trusts::busy, "mask " + mask, t -> t.parts(asked));
                } else {
                    Edges.refused(Edges.ILLEGAL, Trusts::busy, "mask " + mask, t -> t.parts(asked));
                }
            }
            for (int mask : new int[] {-1, -64, LEAST, LEAST | 3, LEAST | 7, 7 << 6, 7 << 29, 1 << 6 | 7, MANY}) {
                Edges.refused(Edges.ILLEGAL, Trusts::busy, "mask " + mask, t -> t.parts(mask));
            }
        });
        EDGES.sentence("no key", () -> {
            Edges.refused(Edges.STATE, SealTrust::new, "the least mask", t -> t.parts(0b000111));
            Edges.refused(Edges.STATE, SealTrust::new, "the greatest mask", t -> t.parts(0b111000));
            Edges.answers(true, Trusts::small, "with a key", t -> t.parts(0b000111));
        });
    }

    /** With the greatest parts the sums are greatest, and with weights below 0 they are least. */
    private static void wholeByParts() {
        int m = Trusts.LARGEST_M;
        for (int a : new int[] {0, 1, m - 1, MANY}) {
            for (int b : new int[] {0, m - 1, MANY}) {
                SealTrust trust = Trusts.dealt(32507, 32603, a, b, 3);
                for (int mask = 7; mask <= 56; mask++) {
                    int asked = mask;
                    if (Integer.bitCount(mask) == 3) {
                        Check.due("parts " + mask + " of a " + a + ", b " + b, true, () -> trust.parts(asked));
                    }
                }
            }
        }
    }

    private static void told() {
        EDGES.in("Promise 15");
        EDGES.sentence("2 voices with partials, 3 with objections (as bits)", () -> {
            long[][] due = {{0b001011, 0b000100}, {0b000111, 0}, {0b000001, 0b111000}, {0b000111, 0}};
            for (int motion = 0; motion < 4; motion++) {
                int asked = motion;
                Edges.answers(due[motion][0], Trusts::busy, "partials of " + motion, t -> t.told(asked, 2));
                Edges.answers(due[motion][1], Trusts::busy, "objections of " + motion, t -> t.told(asked, 3));
            }
        });
        EDGES.sentence("4 its signature (0 if it is not sealed)", () -> {
            long signature = Trusts.busy().told(1, 4);
            Check.due("the sealed one's is its block's root", Model.big(signature).modPow(Model.big(65537),
                    Model.big(N)).longValueExact(), Model.blockOf(N, 1));
            for (int motion : new int[] {0, 2, 3}) {
                Edges.answers(0, Trusts::busy, "motion " + motion, t -> t.told(motion, 4));
            }
            SealTrust trust = openAgainstThree();
            Check.due("before joining", 0, () -> trust.told(0, 4));
            trust.join(0);
            Check.due("after joining", 159, () -> trust.told(0, 4));
        });
        EDGES.sentence("no such motion", () -> {
            noSuchMotion("told", (t, motion) -> t.told(motion, 0));
            noSuchMotion("told, no such what", (t, motion) -> t.told(motion, 5));
            Edges.answers(0, Trusts::full, "told of the first", t -> t.told(0, 0));
            Edges.answers(0, Trusts::full, "told of the twelfth", t -> t.told(11, 0));
        });
        EDGES.sentence("no such what", () -> {
            for (int what : new int[] {LEAST, -1, 5, 6, MANY}) {
                Edges.refused(Edges.ILLEGAL, Trusts::busy, "what " + what, t -> t.told(1, what));
            }
            Edges.answers(1, Trusts::busy, "what 0", t -> t.told(1, 0));
            Edges.allowed(Trusts::busy, "what 4", t -> t.told(1, 4));
        });
    }

    private static void book() {
        EDGES.in("Promise 16");
        EDGES.sentence("-1 if fewer were", () -> {
            SealTrust trust = fullAndEnded();
            for (int n = 0; n <= 12; n++) {
                int asked = n;
                Check.due("book " + n, n < 6 ? 2 * n : -1, () -> trust.book(asked));
            }
            SealTrust all = Trusts.full();
            for (int motion = 11; motion >= 0; motion--) {
                Trusts.consents(all, motion, 1, 2, 3);
                all.join(motion);
            }
            Check.due("the first of twelve", 11, () -> all.book(0));
            Check.due("the last of twelve", 0, () -> all.book(11));
            for (int n : new int[] {12, 13, MANY}) {
                Check.due("beyond twelve, " + n, -1, () -> all.book(n));
            }
            Check.due("without a key", -1, () -> new SealTrust().book(0));
        });
        EDGES.sentence("n is below 0", () -> {
            for (int n : new int[] {-1, LEAST}) {
                Edges.refused(Edges.ILLEGAL, Trusts::busy, "book " + n, t -> t.book(n));
                Edges.refused(Edges.ILLEGAL, SealTrust::new, "book " + n + " without a key", t -> t.book(n));
            }
            Edges.answers(1, Trusts::busy, "book 0", t -> t.book(0));
            Edges.answers(-1, Trusts::busy, "book 1", t -> t.book(1));
        });
    }

    private static void state() {
        EDGES.in("Promise 17");
        EDGES.sentence("0 without a key (but for 4)", () -> {
            for (int what = 0; what <= 10; what++) {
                int asked = what;
                Edges.answers(what == 4 ? 24 : 0, () -> bytesWithoutKey(24), "state " + what, t -> t.state(asked));
                Edges.answers(what == 4 ? 1 : 0, PromiseEdgesTest::refusedKey, "state " + what + ", a key was refused",
                        t -> t.state(asked));
            }
            long[] due = {N, 1, 4, 32, 3};
            for (int what = 0; what < 5; what++) {
                int asked = what;
                Edges.answers(due[what], Trusts::busy, "state " + what + " with a key", t -> t.state(asked));
            }
        });
        EDGES.sentence("no such what", () -> {
            for (int what : new int[] {LEAST, -1, 11, 12, MANY}) {
                Edges.refused(Edges.ILLEGAL, Trusts::busy, "state " + what, t -> t.state(what));
                Edges.refused(Edges.ILLEGAL, SealTrust::new, "state " + what + " without a key", t -> t.state(what));
            }
            Edges.answers(N, Trusts::busy, "state 0", t -> t.state(0));
            Edges.answers(1061, Trusts::small, "state 10", t -> t.state(10));
        });
    }

    private static SealTrust refusedKey() {
        SealTrust trust = bytesWithoutKey(1);
        Check.acts("the last base is refused", Edges.ILLEGAL, () -> trust.deal(23, 47, 1, 1, N - 1));
        return trust;
    }
}
