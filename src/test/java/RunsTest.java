import java.util.Random;
import java.util.concurrent.Callable;
import java.util.stream.IntStream;

/**
 * Runs of as many calls as an object is used for, good and wrong ones, against the model. The seeds are fixed, so
 * each run is the same; two numbers as arguments run other seeds, from the one to the other.
 */
public final class RunsTest {
    private static final int CALLS = 512;
    private static final int CALLS_BEFORE_ALL_IS_ASKED = 380;
    private static final int[] SAFE = IntStream.rangeClosed(20, 32767).filter(Model::safePrime).toArray();
    private static final int[] SMALL = {23, 47, 59, 83};
    private static final int[] EDGES = {0, 1, 2, 3, 5, 6, -1, 7, 11, 12, Integer.MAX_VALUE, Integer.MIN_VALUE};

    private final Random random;
    private final String name;
    private final SealTrust trust = new SealTrust();
    private final Model model = new Model();
    private int calls;
    private boolean allAsked;
    // A partial that was right once: for another motion, another trustee, or in another epoch it is not.
    private Model.Filed old = new Model.Filed(1, 0, 0);

    private RunsTest(int seed) {
        random = new Random(seed);
        name = "run " + seed;
        if (seed % 5 != 0) {
            deal(true);
        }
    }

    public static void main(String[] args) {
        int first = args.length == 2 ? Integer.parseInt(args[0]) : 1;
        int last = args.length == 2 ? Integer.parseInt(args[1]) : 120;
        for (int seed = first; seed <= last; seed += 2) {
            sideBySide(new RunsTest(seed), new RunsTest(seed + 1));
        }
        Check.end("RunsTest");
    }

    /** Two objects by turns: what the one is asked must not be seen on the other. */
    private static void sideBySide(RunsTest one, RunsTest other) {
        while (one.calls < CALLS || other.calls < CALLS) {
            one.next();
            other.next();
        }
    }

    private void next() {
        if (calls >= CALLS_BEFORE_ALL_IS_ASKED && !allAsked) {
            allAsked = true;
            everything();
        }
        step();
    }

    private boolean rarely() {
        return random.nextInt(20) == 0;
    }

    private int edge() {
        return EDGES[random.nextInt(EDGES.length)];
    }

    /** The newest motion often, so that voices on it become many. */
    private int motion() {
        int motions = Math.max(1, (int) model.state(2));
        return rarely() ? edge() : random.nextBoolean() ? motions - 1 : random.nextInt(motions);
    }

    private int trustee() {
        return rarely() ? edge() : random.nextInt(6);
    }

    private int coefficient() {
        return rarely() ? -1 - random.nextInt(9) : random.nextInt() & Integer.MAX_VALUE;
    }

    private int prime() {
        return random.nextBoolean() ? SMALL[random.nextInt(SMALL.length)] : SAFE[random.nextInt(SAFE.length)];
    }

    /** What calls beyond the last one answer is free, so none is made. */
    private void same(String call, Callable<?> got, Callable<?> due) {
        if (calls < CALLS) {
            calls++;
            Check.due(name + ", call " + calls + ", " + call, Check.answer(got), Check.answer(due));
        }
    }

    private void sameAct(String call, Check.Act got, Check.Act due) {
        same(call, () -> Check.act(got), () -> Check.act(due));
    }

    private void step() {
        switch (random.nextInt(24)) {
            case 0 -> put();
            case 1 -> moveNew();
            case 2, 3, 4, 5, 6, 7 -> consent();
            case 8 -> object();
            case 9, 10 -> file();
            case 11, 12 -> partial(motion(), trustee(), rarely() ? edge() : random.nextInt(3));
            case 13 -> bad(motion());
            case 14, 15, 16 -> join();
            case 17 -> verify();
            case 18 -> refresh();
            case 19 -> suspend();
            case 20 -> parts();
            case 21 -> told(motion(), rarely() ? edge() : random.nextInt(5));
            default -> rest();
        }
    }

    private void deal(boolean rightly) {
        int p = !rightly && rarely() ? random.nextInt(40000) : prime();
        int other = prime();
        int q = rightly && other == p ? (p == 23 ? 47 : 23) : other;
        int a = rightly ? random.nextInt(1 << 30) : coefficient();
        int b = rightly ? random.nextInt(1 << 30) : coefficient();
        int base = rightly ? 2 : rarely() ? edge() : 2 + random.nextInt(Math.max(1, p * q));
        sameAct("deal(" + p + ", " + q + ", " + a + ", " + b + ", " + base + ")",
                () -> trust.deal(p, q, a, b, base), () -> model.deal(p, q, a, b, base));
    }

    private void put() {
        int word = random.nextInt();
        int n = rarely() ? edge() : 1 + random.nextInt(4);
        same("put(" + word + ", " + n + ")", () -> trust.put(word, n), () -> model.put(word, n));
    }

    private void moveNew() {
        if (!rarely()) {
            put();
        }
        same("motion()", trust::motion, model::motion);
    }

    private void consent() {
        int motion = motion();
        int trustee = trustee();
        sameAct("consent(" + motion + ", " + trustee + ")",
                () -> trust.consent(motion, trustee), () -> model.consent(motion, trustee));
    }

    private void object() {
        int motion = motion();
        int trustee = trustee();
        sameAct("object(" + motion + ", " + trustee + ")",
                () -> trust.object(motion, trustee), () -> model.object(motion, trustee));
    }

    private void file() {
        int motion = motion();
        int trustee = trustee();
        Model.Filed filed = madeUp(motion, trustee);
        sameAct("file(" + motion + ", " + trustee + ", " + filed + ")",
                () -> trust.file(motion, trustee, filed.power(), filed.c(), filed.z()),
                () -> model.file(motion, trustee, filed.power(), filed.c(), filed.z()));
    }

    private Model.Filed madeUp(int motion, int trustee) {
        boolean there = motion >= 0 && motion < model.state(2) && trustee >= 0 && trustee < 6;
        if (!there) {
            return new Model.Filed(random.nextLong(), random.nextInt(), random.nextLong());
        }
        Model.Filed honest = model.honest(motion, trustee);
        Model.Filed before = old;
        old = random.nextBoolean() ? honest : old;
        long power = honest.power();
        int c = honest.c();
        long z = honest.z();
        long n = model.state(0);
        return switch (random.nextInt(12)) {
            case 0 -> new Model.Filed(n - power, c, z);
            case 1 -> new Model.Filed(power + n, c, z);
            case 2 -> new Model.Filed(power, c ^ 1 << random.nextInt(32), z);
            case 3 -> new Model.Filed(power, c, z ^ 1L << random.nextInt(64));
            case 4 -> new Model.Filed(power, c, z + model.order() * random.nextInt());
            case 5 -> new Model.Filed(power, c, z % model.order());
            case 6 -> new Model.Filed(random.nextInt((int) n), random.nextInt(65536), random.nextLong() >>> 1);
            case 7 -> new Model.Filed(random.nextLong(), random.nextInt(), random.nextLong());
            case 8 -> before;
            default -> honest;
        };
    }

    private void partial(int motion, int trustee, int what) {
        same("partial(" + motion + ", " + trustee + ", " + what + ")",
                () -> trust.partial(motion, trustee, what), () -> model.partial(motion, trustee, what));
    }

    private void bad(int motion) {
        same("bad(" + motion + ")", () -> trust.bad(motion), () -> model.bad(motion));
    }

    private void join() {
        int motion = motion();
        same("join(" + motion + ")", () -> trust.join(motion), () -> model.join(motion));
    }

    private void verify() {
        long n = Math.max(1, model.state(0));
        boolean asked = model.state(0) > 0 && model.state(4) > 0;
        long right = asked ? model.root(model.bufferBlock()) : random.nextInt();
        long signature = switch (random.nextInt(5)) {
            case 0 -> random.nextLong();
            case 1 -> right + n;
            case 2 -> n - right;
            default -> right;
        };
        same("verify(" + signature + ")", () -> trust.verify(signature), () -> model.verify(signature));
    }

    private void refresh() {
        if (random.nextInt(6) == 0) {
            int a = coefficient();
            int b = coefficient();
            sameAct("refresh(" + a + ", " + b + ")", () -> trust.refresh(a, b), () -> model.refresh(a, b));
        }
    }

    private void suspend() {
        int trustee = trustee();
        boolean on = random.nextInt(3) == 0;
        same("suspend(" + trustee + ", " + on + ")",
                () -> trust.suspend(trustee, on), () -> model.suspend(trustee, on));
    }

    private void parts() {
        int mask = rarely() ? edge() : random.nextInt(130) - 1;
        same("parts(" + mask + ")", () -> trust.parts(mask), () -> model.parts(mask));
    }

    private void told(int motion, int what) {
        same("told(" + motion + ", " + what + ")", () -> trust.told(motion, what), () -> model.told(motion, what));
    }

    private void book(int n) {
        same("book(" + n + ")", () -> trust.book(n), () -> model.book(n));
    }

    private void state(int what) {
        same("state(" + what + ")", () -> trust.state(what), () -> model.state(what));
    }

    private void rest() {
        if (random.nextInt(8) == 0) {
            deal(false);
        }
        book(rarely() ? edge() : random.nextInt(14));
        state(rarely() ? edge() : random.nextInt(12));
    }

    /** With twelve motions this makes 102 calls. */
    private void everything() {
        for (int what = 0; what <= 10; what++) {
            state(what);
        }
        for (int motion = 0; motion <= model.state(2); motion++) {
            book(motion);
            bad(motion);
            for (int what = 0; what < 5; what++) {
                told(motion, what);
            }
        }
    }
}
