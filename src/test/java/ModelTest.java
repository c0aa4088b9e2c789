import java.util.Random;

/**
 * Long runs of calls, drawn from fixed seeds, whose answers are those of the model. With the pictures
 * an object gets more than the 512 calls that the document speaks of; the questions change nothing.
 */
final class ModelTest {
    private static final int RUNS = 1000;
    private static final int CALLS_A_RUN = 512;
    private static final int CALLS_BETWEEN_PICTURES = 8;
    private static final int[] ODD_NUMBERS = {
        Integer.MIN_VALUE, Integer.MIN_VALUE + 1, -65, -8, -3, -2, -1, 0, 1, 2, 3, 4, 5, 6, 7, 8, 9, 15, 16,
        17, 20, 21, 31, 32, 33, 63, 64, 99, 100, 101, 255, 256, 257, Integer.MAX_VALUE - 1, Integer.MAX_VALUE
    };

    private final Random random;
    private final BindingKernel kernel;
    private final Model model;
    private final int blocks;
    private final int pages;
    /** Which part of the kernel the run dwells on, 3 being all of it. */
    private final int part;
    private final int oddOnesIn;
    /** With few applications each comes to hold more. */
    private final int appsUsed;
    private final StringBuilder calls = new StringBuilder();
    private boolean failed = false;

    private ModelTest(int seed) {
        random = new Random(seed);
        part = seed % 4;
        appsUsed = 1 + seed / 4 % 6;
        oddOnesIn = 4 + random.nextInt(60);
        int wantedPages = random.nextInt(40) - 2;
        int wantedBlocks = random.nextInt(40) - 2;
        kernel = new BindingKernel(wantedPages, wantedBlocks);
        model = new Model(wantedPages, wantedBlocks);
        pages = kernel.count(0, 0);
        blocks = kernel.count(1, 0);
    }

    public static void main(String[] args) {
        for (int seed = 0; seed < RUNS; seed++) {
            ModelTest run = new ModelTest(seed);
            Run.check("run " + seed, run.play());
        }
        Run.end();
    }

    private boolean play() {
        for (int i = 0; i < 8; i++) {
            openOne();
        }
        for (int i = 8; i < CALLS_A_RUN && !failed; i++) {
            call();
            if (i % CALLS_BETWEEN_PICTURES == 0) {
                comparePictures();
            }
        }
        if (failed) {
            System.out.println(calls);
        }
        return !failed;
    }

    private void due(long got, long wanted, String call, Object... arguments) {
        write(got, call, arguments);
        if (got != wanted) {
            calls.append("due is ").append(wanted).append('\n');
            failed = true;
        }
    }

    /** What is asked for a picture is so much that only a wrong answer is written down. */
    private void duePicture(long got, long wanted, String call, Object... arguments) {
        if (got != wanted) {
            due(got, wanted, call, arguments);
        }
    }

    private void write(long got, String call, Object... arguments) {
        calls.append(call);
        for (Object argument : arguments) {
            calls.append(' ').append(argument);
        }
        calls.append(": ").append(got).append('\n');
    }

    /** A number of least .. greatest, or now and then any other. */
    private int number(int least, int greatest) {
        if (random.nextInt(oddOnesIn) == 0) {
            return ODD_NUMBERS[random.nextInt(ODD_NUMBERS.length)];
        }
        return least + random.nextInt(greatest - least + 1);
    }

    private int app() {
        return number(0, appsUsed - 1);
    }

    private int anyInt() {
        return random.nextBoolean() ? ODD_NUMBERS[random.nextInt(ODD_NUMBERS.length)] : random.nextInt();
    }

    private void call() {
        int choice = random.nextInt(20);
        if (choice == 0) {
            openOrClose();
        } else if (choice == 1) {
            ask();
        } else {
            switch (part == 3 ? random.nextInt(3) : part) {
                case 0 -> pageCall();
                case 1 -> frameCall();
                default -> blockCall();
            }
        }
    }

    private void openOrClose() {
        if (random.nextInt(5) == 0) {
            int a = app();
            due(kernel.close(a), model.close(a), "close", a);
        } else {
            openOne();
        }
    }

    private void openOne() {
        int a = app();
        boolean map = random.nextBoolean();
        int first = number(0, 7);
        int count = number(0, 8 - Math.max(0, Math.min(7, first)));
        due(kernel.open(a, map, first, count), model.open(a, map, first, count), "open", a, map, first, count);
    }

    private void ask() {
        int kind = number(0, 7);
        int place = number(0, kind < 2 ? 31 : 7);
        due(kernel.holder(kind, place), model.holder(kind, place), "holder", kind, place);
        int what = number(0, 8);
        int a = app();
        due(kernel.count(what, a), model.count(what, a), "count", what, a);
    }

    private void pageCall() {
        int a = app();
        int page = likelyOwn(0, pages, a);
        int word = number(0, 3);
        int value = anyInt();
        int n = number(1, 8);
        int delay = number(1, 20);
        switch (random.nextInt(12)) {
            case 0, 1, 2, 3 -> due(kernel.take(a), model.take(a), "take", a);
            case 4 -> due(kernel.release(a, page), model.release(a, page), "release", a, page);
            case 5, 6 -> {
                int to = app();
                int right = number(0, 2);
                due(kernel.share(a, page, to, right), model.share(a, page, to, right), "share", a, page, to, right);
            }
            case 7, 8 -> due(kernel.store(a, page, word, value), model.store(a, page, word, value),
                "store", a, page, word, value);
            case 9 -> due(kernel.fetch(a, page, word), model.fetch(a, page, word), "fetch", a, page, word);
            case 10 -> due(kernel.revoke(a, n, delay), model.revoke(a, n, delay), "revoke", a, n, delay);
            default -> {
                int time = number(1, random.nextInt(6) == 0 ? 100 : 8);
                due(kernel.tick(time), model.tick(time), "tick", time);
            }
        }
    }

    private void frameCall() {
        int a = app();
        switch (random.nextInt(8)) {
            case 0, 1 -> draftAndInstall(a);
            case 2, 3, 4 -> frameArrives();
            case 5, 6 -> {
                int i = number(-1, 5);
                due(kernel.got(a, i), model.got(a, i), "got", a, i);
            }
            default -> due(kernel.next(a), model.next(a), "next", a);
        }
    }

    private void draftAndInstall(int a) {
        int length = number(0, 16);
        for (int i = 0; i < length && i < 20; i++) {
            boolean isLast = i + 1 == length;
            int code = isLast ? number(10, 11) : number(0, random.nextInt(6) == 0 ? 11 : 9);
            int room = Math.max(1, Math.min(15, length - i - 2) + 1);
            int k = code <= 1 ? number(0, 6) : random.nextInt(3) == 0 ? anyInt() : number(0, 31);
            int yes = number(0, room - 1);
            int no = number(0, room - 1);
            due(kernel.op(a, code, k, yes, no), model.op(a, code, k, yes, no), "op", a, code, k, yes, no);
        }
        if (random.nextInt(10) > 0) {
            due(kernel.install(a), model.install(a), "install", a);
        }
    }

    private void frameArrives() {
        int length = random.nextInt(10) == 0 ? 17 : random.nextInt(8);
        for (int i = 0; i < length; i++) {
            int value = number(0, random.nextBoolean() ? 5 : 255);
            due(kernel.push(value), model.push(value), "push", value);
        }
        due(kernel.arrive(), model.arrive(), "arrive");
    }

    private void blockCall() {
        int a = app();
        int key = number(0, 40);
        int value = random.nextInt(3) == 0 ? anyInt() : number(-1, blocks - 1);
        switch (random.nextInt(4)) {
            case 0, 1 -> writeSome(a, value);
            case 2 -> {
                boolean present = random.nextInt(4) > 0;
                due(kernel.put(a, key, value, present), model.put(a, key, value, present), "put", a, key, value, present);
            }
            default -> {
                int asked = random.nextBoolean() ? key : number(0, 8 * blocks);
                due(kernel.get(a, asked), model.get(a, asked), "get", a, asked);
            }
        }
    }

    /** A page or block drawn blindly is seldom the application's own, so some are tried. */
    private int likelyOwn(int kind, int size, int a) {
        int drawn = number(0, size - 1);
        int tries = random.nextInt(30);
        for (int i = 0; i < tries && model.holder(kind, drawn) != a; i++) {
            drawn = number(0, size - 1);
        }
        return drawn;
    }

    private void writeSome(int a, int value) {
        int block = likelyOwn(1, blocks, a);
        int word = number(0, 7);
        due(kernel.write(a, block, word, value), model.write(a, block, word, value), "write", a, block, word, value);
    }

    /** Everything that can be asked without changing anything. */
    private void comparePictures() {
        for (int kind = 0; kind < 8; kind++) {
            for (int place = 0; place < (kind < 2 ? 32 : 8); place++) {
                duePicture(kernel.holder(kind, place), model.holder(kind, place), "holder", kind, place);
            }
        }
        for (int a = 0; a < 6; a++) {
            for (int what = 0; what <= 8; what++) {
                duePicture(kernel.count(what, a), model.count(what, a), "count", what, a);
            }
            for (int i = -1; i <= 16; i++) {
                duePicture(kernel.got(a, i), model.got(a, i), "got", a, i);
            }
            for (int key = -1; key <= 8 * blocks; key++) {
                duePicture(kernel.get(a, key), model.get(a, key), "get", a, key);
            }
            for (int place = 0; place < pages * 4; place++) {
                duePicture(kernel.fetch(a, place / 4, place % 4), model.fetch(a, place / 4, place % 4),
                    "fetch", a, place / 4, place % 4);
            }
        }
    }
}
