import java.util.Random;

/** The 512 calls of an object: the last of them answers as the first does, and none after them fails. */
final class LongUseTest {
    private static final Document DOC = new Document("What it is");
    private static final String USE = "An object is used for at most 512 calls after it has been made;";
    private static final String LATER = "what later calls answer is free.";
    private static final int LATER_CALLS = 200_000;

    public static void main(String[] args) {
        clockTo512();
        takingsTo512();
        lostFramesTo512();
        framesTo512();
        entriesTo512();
        blocksTo512();
        laterCallsAnswerSomething();
        Run.end();
    }

    private static void hasHadAll(Run run) {
        Run.check("the run had all 512 calls", run.history().size() == Run.MOST_CALLS);
    }

    private static int left(Run run) {
        return Run.MOST_CALLS - run.history().size();
    }

    private static void clockTo512() {
        Run run = DOC.run(USE, 8, 4).of("the clock");
        run.openMap(0).ok();
        run.takeTimes(0, 4);
        while (left(run) > 7) {
            run.tick(100).due(0);
        }
        run.revoke(0, 1, 20).due(1);
        run.tick(19).due(0);
        run.revoke(0, 1, 1).due(1);
        run.count(4, 0).due(2);
        run.tick(1).due(2);
        run.holder(2, 1).due(2);
        run.holder(2, 0).due(3);
        hasHadAll(run);
    }

    private static void takingsTo512() {
        Run run = DOC.run(USE, 8, 4).of("takings");
        run.openMap(0).ok();
        run.takeTimes(0, 8);
        while (left(run) > 4) {
            run.release(0, 3).ok();
            run.take(0).due(3);
        }
        run.revoke(0, 1, 1).due(1);
        run.tick(1).due(1);
        run.holder(2, 0).due(3);
        if (left(run) > 0) {
            run.count(3, 0).due(7);
        }
        hasHadAll(run);
    }

    private static void lostFramesTo512() {
        Run run = DOC.run(USE, 4, 4).of("frames LOST");
        run.openMap(0).ok();
        run.installAcceptAll(0);
        run.fillQueue(0, 1);
        int lost = 0;
        while (left(run) > 1) {
            run.arrive().due(BindingKernel.LOST);
            lost++;
        }
        run.count(2, 0).due(lost);
        hasHadAll(run);
    }

    private static void framesTo512() {
        Run run = DOC.run(USE, 4, 4).of("frames");
        run.openMap(0).ok();
        run.installAcceptAll(0);
        int value = 0;
        while (left(run) > 4) {
            run.push(value % 256).due(1);
            run.arrive().due(0);
            run.got(0, 0).due(value % 256);
            run.next(0).due(0);
            value++;
        }
        while (left(run) > 0) {
            run.next(0).refused();
        }
        hasHadAll(run);
    }

    private static void entriesTo512() {
        Run run = DOC.run(USE, 4, 8).of("entries");
        run.openMap(0).ok();
        run.putMany(0, 0, 25);
        int key = 25;
        while (left(run) > 3) {
            run.put(0, key, key * 10).ok();
            run.drop(0, key - 25).ok();
            key++;
        }
        run.get(0, key - 1).due((key - 1) * 10);
        run.get(0, key - 26).none();
        while (left(run) > 0) {
            run.count(8, 0).due(25);
        }
        hasHadAll(run);
    }

    private static void blocksTo512() {
        Run run = DOC.run(USE, 4, 6).of("blocks");
        run.openRaw(0, 0, 1).ok();
        int block = 0;
        while (left(run) > 4) {
            block = block % 5 + 1;
            run.write(0, 0, 0, block).ok();
            run.get(0, 8 * block + 1).due(0);
            run.write(0, block, 1, 7).ok();
        }
        run.get(0, 0).due(block);
        run.count(6, 0).due(2);
        while (left(run) > 0) {
            run.get(0, 8 * block + 1).due(7);
        }
        hasHadAll(run);
    }

    /** Rule 7 of the language knows no 512 calls: none may ever throw. */
    private static void laterCallsAnswerSomething() {
        DOC.run(LATER, 4, 4);
        Random random = new Random(512);
        BindingKernel kernel = new BindingKernel(9, 9);
        for (int i = 0; i < LATER_CALLS; i++) {
            callAny(kernel, random);
        }
        Run.check("no call threw", true);
    }

    private static int number(Random random) {
        return random.nextInt(50) == 0 ? random.nextInt() : random.nextInt(12) - 1;
    }

    private static void callAny(BindingKernel kernel, Random random) {
        int app = number(random);
        int a = number(random);
        int b = number(random);
        int c = number(random);
        switch (random.nextInt(21)) {
            case 0 -> kernel.open(app, random.nextBoolean(), a, b);
            case 1 -> kernel.close(random.nextInt(9) == 0 ? app : -1);
            case 2, 3 -> kernel.take(app);
            case 4 -> kernel.release(app, a);
            case 5 -> kernel.share(app, a, b, c);
            case 6 -> kernel.store(app, a, b, c);
            case 7 -> kernel.fetch(app, a, b);
            case 8 -> kernel.revoke(app, a, b);
            case 9 -> kernel.tick(a);
            case 10 -> kernel.op(app, a, b, c, number(random));
            case 11 -> kernel.install(app);
            case 12 -> kernel.push(a);
            case 13 -> kernel.arrive();
            case 14 -> kernel.got(app, a);
            case 15 -> kernel.next(app);
            case 16 -> kernel.write(app, a, b, c);
            case 17 -> kernel.put(app, a, b, random.nextInt(3) > 0);
            case 18 -> kernel.get(app, a);
            case 19 -> kernel.holder(app, a);
            default -> kernel.count(app, a);
        }
    }
}
