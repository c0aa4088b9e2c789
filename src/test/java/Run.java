import java.util.ArrayList;
import java.util.List;
import java.util.function.LongSupplier;

/**
 * A run of calls on one new kernel. Every call is made through a method of the same name, whose
 * answer is looked at with {@link #due}; {@link #end} ends the program with 1 if one was wrong.
 */
final class Run {
    /** What an object answers after so many calls is free, so no test may ask for more. */
    static final int MOST_CALLS = 512;

    private static final long NO_ANSWER = Long.MIN_VALUE;
    private static final long LONGEST_TEST_IN_MILLISECONDS = 300_000;

    private static int answersLookedAt = 0;
    private static int wrongAnswers = 0;

    private final String name;
    private final BindingKernel kernel;
    private final List<String> history = new ArrayList<>();
    private String detail = "";
    private String lastCall;
    private long lastAnswer;

    static {
        Thread watch = new Thread(Run::endATestThatDoesNotEnd);
        watch.setDaemon(true);
        watch.start();
    }

    /** No call may fail to end; without this one that does would keep .ci/run waiting for ever. */
    private static void endATestThatDoesNotEnd() {
        try {
            Thread.sleep(LONGEST_TEST_IN_MILLISECONDS);
        } catch (InterruptedException e) {
            return;
        }
        System.out.println("a call did not end");
        Runtime.getRuntime().halt(1);
    }

    Run(String name, int pages, int blocks) {
        this.name = name;
        this.kernel = new BindingKernel(pages, blocks);
    }

    static void end() {
        System.out.println(answersLookedAt + " answers looked at, " + wrongAnswers + " wrong");
        if (answersLookedAt == 0 || wrongAnswers > 0) {
            System.exit(1);
        }
    }

    static void check(String what, boolean holds) {
        answersLookedAt++;
        if (!holds) {
            wrongAnswers++;
            System.out.println(what + ": does not hold");
        }
    }

    /** Says which of many like runs this is. */
    Run of(String which) {
        detail = ", " + which;
        return this;
    }

    /** Every call so far with its answer. */
    List<String> history() {
        return history;
    }

    Run due(long wanted) {
        answersLookedAt++;
        if (lastAnswer != wanted) {
            wrongAnswers++;
            System.out.println(name + detail + ": " + lastCall + " answered " + lastAnswer + ", due is " + wanted);
        }
        return this;
    }

    Run ok() {
        return due(BindingKernel.OK);
    }

    Run refused() {
        return due(BindingKernel.REFUSED);
    }

    Run full() {
        return due(BindingKernel.FULL);
    }

    Run none() {
        return due(BindingKernel.NONE);
    }

    /** A call that throws has a wrong answer, and the run goes on. */
    private Run answer(LongSupplier call, String called, Object... arguments) {
        StringBuilder text = new StringBuilder(called).append('(');
        for (int i = 0; i < arguments.length; i++) {
            text.append(i == 0 ? "" : ", ").append(arguments[i]);
        }
        lastCall = text.append(')').toString();
        try {
            lastAnswer = call.getAsLong();
        } catch (RuntimeException thrown) {
            lastAnswer = NO_ANSWER;
            check(name + detail + ": " + lastCall + " threw " + thrown + ", which no call may do", false);
        }
        history.add(lastCall + ": " + lastAnswer);
        if (history.size() > MOST_CALLS) {
            check(name + detail + " has at most " + MOST_CALLS + " calls", false);
        }
        return this;
    }

    Run open(int app, boolean map, int first, int count) {
        return answer(() -> kernel.open(app, map, first, count), "open", app, map, first, count);
    }

    /** Opens a map. */
    Run openMap(int app) {
        return open(app, true, 0, 0);
    }

    void openMaps(int from, int to) {
        for (int app = from; app <= to; app++) {
            openMap(app).ok();
        }
    }

    Run openRaw(int app, int first, int count) {
        return open(app, false, first, count);
    }

    Run close(int app) {
        return answer(() -> kernel.close(app), "close", app);
    }

    Run take(int app) {
        return answer(() -> kernel.take(app), "take", app);
    }

    void takeTimes(int app, int times) {
        for (int i = 0; i < times; i++) {
            take(app);
        }
    }

    Run release(int app, int page) {
        return answer(() -> kernel.release(app, page), "release", app, page);
    }

    Run share(int app, int page, int to, int right) {
        return answer(() -> kernel.share(app, page, to, right), "share", app, page, to, right);
    }

    Run store(int app, int page, int word, int value) {
        return answer(() -> kernel.store(app, page, word, value), "store", app, page, word, value);
    }

    Run fetch(int app, int page, int word) {
        return answer(() -> kernel.fetch(app, page, word), "fetch", app, page, word);
    }

    Run revoke(int app, int n, int delay) {
        return answer(() -> kernel.revoke(app, n, delay), "revoke", app, n, delay);
    }

    Run tick(int n) {
        return answer(() -> kernel.tick(n), "tick", n);
    }

    Run op(int app, int code, int k, int yes, int no) {
        return answer(() -> kernel.op(app, code, k, yes, no), "op", app, code, k, yes, no);
    }

    /** An instruction whose jumps are not looked at. */
    Run op(int app, int code, int k) {
        return op(app, code, k, 0, 0);
    }

    Run install(int app) {
        return answer(() -> kernel.install(app), "install", app);
    }

    /** Installs a filter that accepts every frame. */
    void installAcceptAll(int app) {
        op(app, 10, 1);
        install(app).ok();
    }

    /** Installs a filter that accepts the frames whose first byte is the value. */
    void installFirstByte(int app, int value) {
        op(app, 0, 0);
        op(app, 7, value, 0, 1);
        op(app, 10, 1);
        op(app, 10, 0);
        install(app).ok();
    }

    Run push(int value) {
        return answer(() -> kernel.push(value), "push", value);
    }

    Run arrive() {
        return answer(() -> kernel.arrive(), "arrive");
    }

    /** Lets a frame of these bytes arrive. */
    Run arrive(int... bytes) {
        for (int value : bytes) {
            push(value);
        }
        return arrive();
    }

    /** Lets four frames of the one byte arrive, all for the application. */
    void fillQueue(int app, int value) {
        for (int i = 0; i < 4; i++) {
            arrive(value).due(app);
        }
    }

    Run got(int app, int i) {
        return answer(() -> kernel.got(app, i), "got", app, i);
    }

    Run next(int app) {
        return answer(() -> kernel.next(app), "next", app);
    }

    Run write(int app, int block, int word, int value) {
        return answer(() -> kernel.write(app, block, word, value), "write", app, block, word, value);
    }

    Run put(int app, int key, int value, boolean present) {
        return answer(() -> kernel.put(app, key, value, present), "put", app, key, value, present);
    }

    Run put(int app, int key, int value) {
        return put(app, key, value, true);
    }

    /** Puts entries with the keys first .. first + number - 1, each with the value of its key times 10. */
    void putMany(int app, int first, int number) {
        for (int key = first; key < first + number; key++) {
            put(app, key, key * 10).ok();
        }
    }

    Run drop(int app, int key) {
        return put(app, key, 0, false);
    }

    Run get(int app, int key) {
        return answer(() -> kernel.get(app, key), "get", app, key);
    }

    Run holder(int kind, int number) {
        return answer(() -> kernel.holder(kind, number), "holder", kind, number);
    }

    Run count(int what, int app) {
        return answer(() -> kernel.count(what, app), "count", what, app);
    }
}
