import java.util.ArrayList;
import java.util.List;
import java.util.Random;
import java.util.function.ToLongFunction;

/**
 * Runs of calls, drawn from fixed seeds, whose answers are those of the model. In the end everything that can be
 * asked is asked: as an object has 512 calls, new objects are brought to the same state for the many questions.
 */
final class ModelTest {
    private static final int RUNS = 2000;
    private static final int FEWEST_CALLS = 40;
    private static final int QUESTIONS_AN_OBJECT = 112;
    private static final int MOST_CALLS = Run.MOST_CALLS - QUESTIONS_AN_OBJECT;
    private static final int[] ODD_NUMBERS = {
        Integer.MIN_VALUE, Integer.MIN_VALUE + 1, -65, -8, -3, -2, -1, 0, 1, 2, 3, 4, 5, 6, 7, 8, 9, 15, 16,
        17, 20, 21, 31, 32, 33, 63, 64, 99, 100, 101, 255, 256, 257, Integer.MAX_VALUE - 1, Integer.MAX_VALUE
    };

    /** A call with these arguments on the kernel, and on the model. */
    private record Call(String text, ToLongFunction<BindingKernel> onKernel, ToLongFunction<Model> onModel) { }

    private final Random random;
    private final int wantedPages;
    private final int wantedBlocks;
    private final BindingKernel kernel;
    private final Model model;
    private final int blocks;
    private final int pages;
    /** Which part of the kernel the run dwells on, 3 being all of it. */
    private final int part;
    private final int oddOnesIn;
    /** With few applications each comes to hold more. */
    private final int appsUsed;
    private final int callsWanted;
    private final List<Call> calls = new ArrayList<>();
    private boolean failed = false;

    private ModelTest(int seed) {
        random = new Random(seed);
        part = seed % 4;
        appsUsed = 1 + seed / 4 % 6;
        oddOnesIn = 4 + random.nextInt(60);
        wantedPages = random.nextInt(40) - 2;
        wantedBlocks = random.nextInt(40) - 2;
        callsWanted = FEWEST_CALLS + random.nextInt(MOST_CALLS - FEWEST_CALLS + 1);
        kernel = new BindingKernel(wantedPages, wantedBlocks);
        model = new Model(wantedPages, wantedBlocks);
        pages = model.count(0, 0);
        blocks = model.count(1, 0);
    }

    public static void main(String[] args) {
        for (int seed = 0; seed < RUNS; seed++) {
            ModelTest run = new ModelTest(seed);
            Run.check("run " + seed, run.play());
        }
        Run.end();
    }

    private boolean play() {
        for (int i = 0; i < 8; i++) {
            openOne();
        }
        while (calls.size() < callsWanted && !failed) {
            call();
        }
        List<Call> questions = questions();
        for (int begin = 0; begin < questions.size() && !failed; begin += QUESTIONS_AN_OBJECT) {
            ask(questions.subList(begin, Math.min(questions.size(), begin + QUESTIONS_AN_OBJECT)));
        }
        return !failed;
    }

    private void ask(List<Call> questions) {
        BindingKernel again = new BindingKernel(wantedPages, wantedBlocks);
        for (Call call : calls) {
            call.onKernel.applyAsLong(again);
        }
        for (Call question : questions) {
            compare(question, question.onKernel.applyAsLong(again), question.onModel.applyAsLong(model));
        }
    }

    private void compare(Call call, long got, long due) {
        if (got != due && !failed) {
            failed = true;
            System.out.println("new BindingKernel(" + wantedPages + ", " + wantedBlocks + ")");
            calls.forEach(each -> System.out.println(each.text));
            System.out.println(call.text + " answered " + got + ", due is " + due);
        }
    }

    private static Call make(ToLongFunction<BindingKernel> onKernel, ToLongFunction<Model> onModel,
            String name, Object... arguments) {
        StringBuilder text = new StringBuilder(name);
        for (Object argument : arguments) {
            text.append(' ').append(argument);
        }
        return new Call(text.toString(), onKernel, onModel);
    }

    private void due(ToLongFunction<BindingKernel> onKernel, ToLongFunction<Model> onModel,
            String name, Object... arguments) {
        if (calls.size() < callsWanted) {
            Call call = make(onKernel, onModel, name, arguments);
            calls.add(call);
            compare(call, onKernel.applyAsLong(kernel), onModel.applyAsLong(model));
        }
    }

    /** A number of least .. greatest, or now and then any other. */
    private int number(int least, int greatest) {
        if (random.nextInt(oddOnesIn) == 0) {
            return ODD_NUMBERS[random.nextInt(ODD_NUMBERS.length)];
        }
        return least + random.nextInt(greatest - least + 1);
    }

    private int app() {
        return number(0, appsUsed - 1);
    }

    private int anyInt() {
        return random.nextBoolean() ? ODD_NUMBERS[random.nextInt(ODD_NUMBERS.length)] : random.nextInt();
    }

    private void call() {
        int choice = random.nextInt(20);
        if (choice == 0) {
            openOrClose();
        } else if (choice == 1) {
            askOne();
        } else {
            switch (part == 3 ? random.nextInt(3) : part) {
                case 0 -> pageCall();
                case 1 -> frameCall();
                default -> blockCall();
            }
        }
    }

    private void openOrClose() {
        if (random.nextInt(5) == 0) {
            int a = app();
            due(k -> k.close(a), m -> m.close(a), "close", a);
        } else {
            openOne();
        }
    }

    private void openOne() {
        int a = app();
        boolean map = random.nextBoolean();
        int first = number(0, 7);
        int count = number(0, 8 - Math.max(0, Math.min(7, first)));
        due(k -> k.open(a, map, first, count), m -> m.open(a, map, first, count), "open", a, map, first, count);
    }

    private void askOne() {
        int kind = number(0, 7);
        int place = number(0, kind < 2 ? 31 : 7);
        due(k -> k.holder(kind, place), m -> m.holder(kind, place), "holder", kind, place);
        int what = number(0, 8);
        int a = app();
        due(k -> k.count(what, a), m -> m.count(what, a), "count", what, a);
    }

    private void pageCall() {
        int a = app();
        int page = likelyOwn(0, pages, a);
        int word = number(0, 3);
        int value = anyInt();
        int n = number(1, 8);
        int delay = number(1, 20);
        switch (random.nextInt(12)) {
            case 0, 1, 2, 3 -> due(k -> k.take(a), m -> m.take(a), "take", a);
            case 4 -> due(k -> k.release(a, page), m -> m.release(a, page), "release", a, page);
            case 5, 6 -> {
                int to = app();
                int right = number(0, 2);
                due(k -> k.share(a, page, to, right), m -> m.share(a, page, to, right), "share", a, page, to, right);
            }
            case 7, 8 -> due(k -> k.store(a, page, word, value), m -> m.store(a, page, word, value),
                "store", a, page, word, value);
            case 9 -> due(k -> k.fetch(a, page, word), m -> m.fetch(a, page, word), "fetch", a, page, word);
            case 10 -> due(k -> k.revoke(a, n, delay), m -> m.revoke(a, n, delay), "revoke", a, n, delay);
            default -> {
                int time = number(1, random.nextInt(6) == 0 ? 100 : 8);
                due(k -> k.tick(time), m -> m.tick(time), "tick", time);
            }
        }
    }

    private void frameCall() {
        int a = app();
        switch (random.nextInt(8)) {
            case 0, 1 -> draftAndInstall(a);
            case 2, 3, 4 -> frameArrives();
            case 5, 6 -> {
                int i = number(-1, 5);
                due(k -> k.got(a, i), m -> m.got(a, i), "got", a, i);
            }
            default -> due(k -> k.next(a), m -> m.next(a), "next", a);
        }
    }

    private void draftAndInstall(int a) {
        int length = number(0, 16);
        for (int i = 0; i < length && i < 20; i++) {
            boolean isLast = i + 1 == length;
            int code = isLast ? number(10, 11) : number(0, random.nextInt(6) == 0 ? 11 : 9);
            int room = Math.max(1, Math.min(15, length - i - 2) + 1);
            int operand = code <= 1 ? number(0, 6) : random.nextInt(3) == 0 ? anyInt() : number(0, 31);
            int yes = number(0, room - 1);
            int no = number(0, room - 1);
            due(k -> k.op(a, code, operand, yes, no), m -> m.op(a, code, operand, yes, no),
                "op", a, code, operand, yes, no);
        }
        if (random.nextInt(10) > 0) {
            due(k -> k.install(a), m -> m.install(a), "install", a);
        }
    }

    private void frameArrives() {
        int length = random.nextInt(10) == 0 ? 17 : random.nextInt(8);
        for (int i = 0; i < length; i++) {
            int value = number(0, random.nextBoolean() ? 5 : 255);
            due(k -> k.push(value), m -> m.push(value), "push", value);
        }
        due(k -> k.arrive(), m -> m.arrive(), "arrive");
    }

    private void blockCall() {
        int a = app();
        int key = number(0, 40);
        int value = random.nextInt(3) == 0 ? anyInt() : number(-1, blocks - 1);
        switch (random.nextInt(4)) {
            case 0, 1 -> {
                int block = likelyOwn(1, blocks, a);
                int word = number(0, 7);
                due(k -> k.write(a, block, word, value), m -> m.write(a, block, word, value),
                    "write", a, block, word, value);
            }
            case 2 -> {
                boolean present = random.nextInt(4) > 0;
                due(k -> k.put(a, key, value, present), m -> m.put(a, key, value, present),
                    "put", a, key, value, present);
            }
            default -> {
                int asked = random.nextBoolean() ? key : number(0, 8 * blocks);
                due(k -> k.get(a, asked), m -> m.get(a, asked), "get", a, asked);
            }
        }
    }

    /** A page or block drawn blindly is seldom the application's own, so some are tried. */
    private int likelyOwn(int kind, int size, int a) {
        int drawn = number(0, size - 1);
        int tries = random.nextInt(30);
        for (int i = 0; i < tries && model.holder(kind, drawn) != a; i++) {
            drawn = number(0, size - 1);
        }
        return drawn;
    }

    /** Everything that can be asked without changing anything. */
    private List<Call> questions() {
        List<Call> all = new ArrayList<>();
        for (int kind = 0; kind < 8; kind++) {
            for (int place = 0; place < (kind < 2 ? 32 : 8); place++) {
                int asked = kind;
                int number = place;
                all.add(make(k -> k.holder(asked, number), m -> m.holder(asked, number), "holder", asked, number));
            }
        }
        for (int app = 0; app < 6; app++) {
            questionsOf(app, all);
        }
        return all;
    }

    private void questionsOf(int a, List<Call> all) {
        for (int each = 0; each <= 8; each++) {
            int what = each;
            all.add(make(k -> k.count(what, a), m -> m.count(what, a), "count", what, a));
        }
        for (int each = -1; each <= 16; each++) {
            int i = each;
            all.add(make(k -> k.got(a, i), m -> m.got(a, i), "got", a, i));
        }
        for (int each = -1; each <= 8 * blocks; each++) {
            int key = each;
            all.add(make(k -> k.get(a, key), m -> m.get(a, key), "get", a, key));
        }
        for (int each = 0; each < pages * 4; each++) {
            int page = each / 4;
            int word = each % 4;
            all.add(make(k -> k.fetch(a, page, word), m -> m.fetch(a, page, word), "fetch", a, page, word));
        }
    }
}
