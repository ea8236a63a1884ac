import java.util.Arrays;
import java.util.Random;

/** Long runs of calls, good and wrong ones, against the model; the seeds are fixed, so each run is the same. */
public final class RunsTest {
    private static final int[] SAFE = {23, 47, 59, 83, 107, 10007, 20123, 32603, 32507};
    private static final int[] EDGES = {0, 1, 2, 3, 5, 6, -1, 7, 11, 12, Integer.MAX_VALUE, Integer.MIN_VALUE};

    private final Random random;
    private final String name;
    private final SealTrust trust = new SealTrust();
    private final Model model = new Model();

    private RunsTest(int seed) {
        random = new Random(seed);
        name = "run " + seed;
    }

    public static void main(String[] args) {
        for (int seed = 1; seed <= 120; seed++) {
            new RunsTest(seed).run(seed % 3 == 0);
        }
        Check.end("RunsTest");
    }

    private void run(boolean keyFirst) {
        if (keyFirst) {
            deal(true);
        }
        for (int i = 0; i < 250; i++) {
            step();
        }
        everything();
    }

    private boolean rarely() {
        return random.nextInt(20) == 0;
    }

    private int edge() {
        return EDGES[random.nextInt(EDGES.length)];
    }

    private int motion() {
        return rarely() ? edge() : random.nextInt(Math.max(1, (int) model.state(2)));
    }

    private int trustee() {
        return rarely() ? edge() : random.nextInt(6);
    }

    private int coefficient() {
        return rarely() ? -1 - random.nextInt(9) : random.nextInt() & Integer.MAX_VALUE;
    }

    private void same(String call, String got, String due) {
        Check.due(name + ", " + call, got, due);
    }

    private void step() {
        switch (random.nextInt(20)) {
            case 0 -> put();
            case 1, 2 -> moveNew();
            case 3, 4, 5, 6 -> consent();
            case 7 -> object();
            case 8 -> file();
            case 9, 10 -> partial();
            case 11 -> bad();
            case 12, 13 -> join();
            case 14 -> verify();
            case 15 -> refresh();
            case 16 -> suspend();
            case 17 -> parts();
            case 18 -> told();
            default -> rest();
        }
    }

    private void deal(boolean rightly) {
        int p = SAFE[random.nextInt(SAFE.length)];
        int q = SAFE[random.nextInt(SAFE.length)];
        if (rightly && p == q) {
            q = p == 23 ? 47 : 23;
        }
        if (!rightly && rarely()) {
            p = random.nextInt(40000);
        }
        int a = rightly ? random.nextInt(1 << 30) : coefficient();
        int b = rightly ? random.nextInt(1 << 30) : coefficient();
        int base = rightly ? 2 : rarely() ? edge() : 2 + random.nextInt(Math.max(1, p * q));
        int lastQ = q;
        int lastP = p;
        same("deal(" + p + ", " + q + ", " + a + ", " + b + ", " + base + ")",
                Check.act(() -> trust.deal(lastP, lastQ, a, b, base)),
                Check.act(() -> model.deal(lastP, lastQ, a, b, base)));
    }

    private void put() {
        int word = random.nextInt();
        int n = rarely() ? edge() : 1 + random.nextInt(4);
        same("put(" + word + ", " + n + ")", Check.answer(() -> trust.put(word, n)),
                Check.answer(() -> model.put(word, n)));
    }

    private void moveNew() {
        if (!rarely()) {
            put();
        }
        same("motion()", Check.answer(trust::motion), Check.answer(model::motion));
    }

    private void consent() {
        int motion = motion();
        int trustee = trustee();
        same("consent(" + motion + ", " + trustee + ")", Check.act(() -> trust.consent(motion, trustee)),
                Check.act(() -> model.consent(motion, trustee)));
    }

    private void object() {
        int motion = motion();
        int trustee = trustee();
        same("object(" + motion + ", " + trustee + ")", Check.act(() -> trust.object(motion, trustee)),
                Check.act(() -> model.object(motion, trustee)));
    }

    private void file() {
        int motion = motion();
        int trustee = trustee();
        Model.Filed filed = madeUp(motion, trustee);
        same("file(" + motion + ", " + trustee + ", " + filed + ")",
                Check.act(() -> trust.file(motion, trustee, filed.power(), filed.c(), filed.z())),
                Check.act(() -> model.file(motion, trustee, filed.power(), filed.c(), filed.z())));
    }

    private Model.Filed madeUp(int motion, int trustee) {
        boolean there = motion >= 0 && motion < model.state(2) && trustee >= 0 && trustee < 6;
        if (!there || random.nextInt(3) == 0) {
            return new Model.Filed(random.nextLong(), random.nextInt(), random.nextLong());
        }
        Model.Filed honest = model.honest(motion, trustee);
        long n = model.state(0);
        return switch (random.nextInt(6)) {
            case 0 -> new Model.Filed(n - honest.power(), honest.c(), honest.z());
            case 1 -> new Model.Filed(honest.power() + n, honest.c(), honest.z());
            case 2 -> new Model.Filed(honest.power(), honest.c() ^ 1, honest.z());
            case 3 -> new Model.Filed(honest.power(), honest.c(), honest.z() + 1);
            case 4 -> new Model.Filed(random.nextInt((int) n), random.nextInt(65536), random.nextLong() >>> 1);
            default -> honest;
        };
    }

    private void partial() {
        int motion = motion();
        int trustee = trustee();
        int what = rarely() ? edge() : random.nextInt(3);
        same("partial(" + motion + ", " + trustee + ", " + what + ")",
                Check.answer(() -> trust.partial(motion, trustee, what)),
                Check.answer(() -> model.partial(motion, trustee, what)));
    }

    private void bad() {
        int motion = motion();
        same("bad(" + motion + ")", Check.answer(() -> trust.bad(motion)), Check.answer(() -> model.bad(motion)));
    }

    private void join() {
        int motion = motion();
        same("join(" + motion + ")", Check.answer(() -> trust.join(motion)), Check.answer(() -> model.join(motion)));
    }

    private void verify() {
        long motions = model.state(2);
        long signature = motions == 0 ? random.nextInt() : model.told(random.nextInt((int) motions), 4);
        same("verify(" + signature + ")", Check.answer(() -> trust.verify(signature)),
                Check.answer(() -> model.verify(signature)));
    }

    private void refresh() {
        if (random.nextInt(3) != 0) {
            return;
        }
        int a = coefficient();
        int b = coefficient();
        same("refresh(" + a + ", " + b + ")", Check.act(() -> trust.refresh(a, b)),
                Check.act(() -> model.refresh(a, b)));
    }

    private void suspend() {
        int trustee = trustee();
        boolean on = random.nextInt(3) == 0;
        same("suspend(" + trustee + ", " + on + ")", Check.answer(() -> trust.suspend(trustee, on)),
                Check.answer(() -> model.suspend(trustee, on)));
    }

    private void parts() {
        int mask = rarely() ? edge() : random.nextInt(130) - 1;
        same("parts(" + mask + ")", Check.answer(() -> trust.parts(mask)), Check.answer(() -> model.parts(mask)));
    }

    private void told() {
        int motion = motion();
        int what = rarely() ? edge() : random.nextInt(5);
        same("told(" + motion + ", " + what + ")", Check.answer(() -> trust.told(motion, what)),
                Check.answer(() -> model.told(motion, what)));
    }

    private void rest() {
        if (random.nextInt(8) == 0) {
            deal(false);
        }
        int n = rarely() ? edge() : random.nextInt(14);
        same("book(" + n + ")", Check.answer(() -> trust.book(n)), Check.answer(() -> model.book(n)));
        same("state(" + n + ")", Check.answer(() -> trust.state(n)), Check.answer(() -> model.state(n)));
    }

    private void everything() {
        for (int what = 0; what <= 10; what++) {
            same("at last state(" + what + ")", "" + trust.state(what), "" + model.state(what));
        }
        for (int motion = 0; motion < model.state(2); motion++) {
            long[] got = new long[6];
            long[] due = new long[6];
            for (int what = 0; what < 5; what++) {
                got[what] = trust.told(motion, what);
                due[what] = model.told(motion, what);
            }
            got[5] = trust.bad(motion);
            due[5] = model.bad(motion);
            same("at last motion " + motion, Arrays.toString(got), Arrays.toString(due));
        }
    }
}
