import java.util.List;
import java.util.function.Consumer;
import java.util.function.Function;

/** The Terms: what every call tests first, and what a refused call leaves. */
final class CallTerms {
    private static final String NUMBERS_FIRST = "In every call the numbers are tested first: one out of its range"
        + " is REFUSED (NONE where the answer is a long);";
    private static final String THEN_OPEN = "then, if the call names an application that acts (app), that it is"
        + " open: else the same.";
    private static final String NOTHING_CHANGES = "A refused call (an answer below 0, if it is not said to be an"
        + " outcome) changes nothing.";
    private static final int LEAST = Integer.MIN_VALUE;
    private static final int GREATEST = Integer.MAX_VALUE;
    private static final int REFUSED = BindingKernel.REFUSED;
    private static final int FULL = BindingKernel.FULL;
    private static final int BUSY = BindingKernel.BUSY;
    private static final int TAKEN = BindingKernel.TAKEN;
    private static final int PAGES = 9;
    private static final int BLOCKS = 12;

    private final Document doc;

    private CallTerms(Document doc) {
        this.doc = doc;
    }

    static void tryAll(Document doc) {
        CallTerms terms = new CallTerms(doc);
        terms.numbersOutOfRange();
        terms.numbersBeforeFull();
        terms.numbersBeforeBusyAndTaken();
        terms.applicationIsOpen();
        terms.openBeforeFull();
        terms.refusedCallsChangeNothing();
        terms.fullCallsChangeNothing();
        terms.busyAndTakenChangeNothing();
        terms.outcomesDoChange();
    }

    /**
     * Something of everything: application 0 is RAW with LINK words 2 to 4, application 1 is a MAP, application 5 is
     * RAW without LINK words; 2 to 4 are not open, and 4 was. Page 8 and blocks 7 to 11 are FREE.
     */
    private static void prepare(Run run) {
        run.openRaw(0, 2, 3).ok();
        run.openMap(1).ok();
        run.openRaw(5, 0, 0).ok();
        run.write(0, 0, 2, 5).ok();
        run.write(0, 5, 3, 6).ok();
        run.write(0, 5, 0, 50).ok();
        run.write(5, 2, 7, 57).ok();
        run.putMany(1, 10, 5);
        run.openMap(4).ok();
        run.takeTimes(4, 3);
        run.revoke(4, 1, 1).due(1);
        run.tick(1).due(1);
        run.close(4).ok();
        run.takeTimes(0, 4);
        run.takeTimes(1, 3);
        run.takeTimes(5, 1);
        run.revoke(1, 1, 1).due(1);
        run.tick(1).due(1);
        run.takeTimes(1, 2);
        run.share(0, 1, 1, 1).ok();
        run.share(0, 2, 1, 2).ok();
        run.share(1, 4, 0, 1).ok();
        run.store(0, 1, 3, 13).ok();
        run.store(1, 4, 0, 40).ok();
        run.revoke(0, 1, 5).due(1);
        run.tick(2).due(0);
        run.revoke(0, 1, 9).due(1);
        run.installFirstByte(0, 9);
        run.installFirstByte(1, 8);
        run.fillQueue(0, 9);
        run.arrive(9).due(BindingKernel.LOST);
        run.arrive(8, 1, 2).due(1);
        run.op(0, 10, 0).due(0);
        run.op(1, 2, 0).due(0);
        run.op(1, 11, 0).due(1);
        run.push(8).due(1);
        run.push(77).due(2);
    }

    private void dueAfterPreparing(String words, long due, Function<Run, Run> call) {
        Run run = doc.run(words, PAGES, BLOCKS);
        prepare(run);
        call.apply(run).due(due);
    }

    private void numbersOutOfRange() {
        for (int app : new int[] {-1, 6, 7, LEAST, GREATEST}) {
            outOfRange(REFUSED, run -> run.open(app, true, 0, 0));
            outOfRange(REFUSED, run -> run.open(app, false, 0, 0));
            outOfRange(REFUSED, run -> run.close(app));
            outOfRange(REFUSED, run -> run.take(app));
            outOfRange(REFUSED, run -> run.release(app, 0));
            outOfRange(REFUSED, run -> run.share(app, 0, 1, 1));
            outOfRange(REFUSED, run -> run.share(0, 0, app, 1));
            outOfRange(REFUSED, run -> run.store(app, 0, 0, 1));
            outOfRange(BindingKernel.NONE, run -> run.fetch(app, 0, 0));
            outOfRange(REFUSED, run -> run.revoke(app, 1, 1));
            outOfRange(REFUSED, run -> run.op(app, 2, 0));
            outOfRange(REFUSED, run -> run.install(app));
            outOfRange(REFUSED, run -> run.got(app, -1));
            outOfRange(REFUSED, run -> run.next(app));
            outOfRange(REFUSED, run -> run.write(app, 0, 0, 1));
            outOfRange(REFUSED, run -> run.put(app, 10, 1));
            outOfRange(REFUSED, run -> run.drop(app, 10));
            outOfRange(BindingKernel.NONE, run -> run.get(app, 0));
            outOfRange(REFUSED, run -> run.count(3, app));
            outOfRange(REFUSED, run -> run.count(8, app));
        }
        for (int number : new int[] {-1, LEAST, GREATEST}) {
            outOfRange(REFUSED, run -> run.openRaw(2, number, 0));
            outOfRange(REFUSED, run -> run.openRaw(2, 0, number));
            outOfRange(REFUSED, run -> run.release(0, number));
            outOfRange(REFUSED, run -> run.share(0, number, 1, 1));
            outOfRange(REFUSED, run -> run.share(0, 0, 1, number));
            outOfRange(REFUSED, run -> run.store(0, number, 0, 1));
            outOfRange(REFUSED, run -> run.store(0, 1, number, 1));
            outOfRange(BindingKernel.NONE, run -> run.fetch(0, number, 0));
            outOfRange(BindingKernel.NONE, run -> run.fetch(0, 1, number));
            outOfRange(REFUSED, run -> run.revoke(1, number, 1));
            outOfRange(REFUSED, run -> run.revoke(1, 1, number));
            outOfRange(REFUSED, run -> run.tick(number));
            outOfRange(REFUSED, run -> run.op(0, number, 0));
            outOfRange(REFUSED, run -> run.op(0, 0, number));
            outOfRange(REFUSED, run -> run.op(0, 7, 0, number, 0));
            outOfRange(REFUSED, run -> run.op(0, 9, 0, 0, number));
            outOfRange(REFUSED, run -> run.push(number));
            outOfRange(REFUSED, run -> run.write(0, number, 0, 1));
            outOfRange(REFUSED, run -> run.write(0, 5, number, 1));
            outOfRange(BindingKernel.NONE, run -> run.get(0, number));
            outOfRange(REFUSED, run -> run.holder(number, 0));
            outOfRange(REFUSED, run -> run.holder(0, number));
            outOfRange(REFUSED, run -> run.holder(1, number));
            outOfRange(REFUSED, run -> run.holder(3, number));
            outOfRange(REFUSED, run -> run.count(number, 0));
        }
        numbersOneTooGreat();
    }

    private void numbersOneTooGreat() {
        outOfRange(REFUSED, run -> run.openRaw(2, 8, 0));
        outOfRange(REFUSED, run -> run.openRaw(2, 0, 9));
        outOfRange(REFUSED, run -> run.openRaw(2, 7, 2));
        outOfRange(REFUSED, run -> run.release(0, PAGES));
        outOfRange(REFUSED, run -> run.share(0, PAGES, 1, 1));
        outOfRange(REFUSED, run -> run.share(0, 0, 1, 3));
        outOfRange(REFUSED, run -> run.store(0, PAGES, 0, 1));
        outOfRange(REFUSED, run -> run.store(0, 1, 4, 1));
        outOfRange(BindingKernel.NONE, run -> run.fetch(0, PAGES, 0));
        outOfRange(BindingKernel.NONE, run -> run.fetch(0, 1, 4));
        outOfRange(REFUSED, run -> run.revoke(1, 0, 1));
        outOfRange(REFUSED, run -> run.revoke(1, 9, 1));
        outOfRange(REFUSED, run -> run.revoke(1, 1, 0));
        outOfRange(REFUSED, run -> run.revoke(1, 1, 21));
        outOfRange(REFUSED, run -> run.tick(0));
        outOfRange(REFUSED, run -> run.tick(101));
        outOfRange(REFUSED, run -> run.op(0, 12, 0));
        outOfRange(REFUSED, run -> run.op(0, 0, 64));
        outOfRange(REFUSED, run -> run.op(0, 1, 64));
        outOfRange(REFUSED, run -> run.op(0, 6, 32));
        outOfRange(REFUSED, run -> run.op(0, 7, 0, 16, 0));
        outOfRange(REFUSED, run -> run.op(0, 8, 0, 0, 16));
        outOfRange(REFUSED, run -> run.push(256));
        outOfRange(REFUSED, run -> run.got(1, 3));
        outOfRange(REFUSED, run -> run.got(1, -2));
        outOfRange(REFUSED, run -> run.write(0, BLOCKS, 0, 1));
        outOfRange(REFUSED, run -> run.write(0, 5, 8, 1));
        outOfRange(REFUSED, run -> run.write(0, 5, 2, BLOCKS));
        outOfRange(REFUSED, run -> run.write(0, 5, 2, -2));
        outOfRange(BindingKernel.NONE, run -> run.get(0, 8 * BLOCKS));
        outOfRange(REFUSED, run -> run.holder(8, 0));
        outOfRange(REFUSED, run -> run.holder(0, PAGES));
        outOfRange(REFUSED, run -> run.holder(1, BLOCKS));
        outOfRange(REFUSED, run -> run.holder(3, 8));
        outOfRange(REFUSED, run -> run.count(9, 0));
    }

    private void outOfRange(long due, Function<Run, Run> call) {
        dueAfterPreparing(NUMBERS_FIRST, due, call);
    }

    private static void fillPages(Run run) {
        run.takeTimes(5, PAGES);
        run.count(0, 0).due(0);
    }

    private static void fillBlocks(Run run) {
        int above = 0;
        for (int block = 7; block < BLOCKS; block++) {
            run.write(0, above, 3, block).ok();
            above = block;
        }
        run.count(1, 0).due(0);
    }

    private static void fillDraft(Run run) {
        for (int number = 1; number < 16; number++) {
            run.op(0, 10, 0).due(number);
        }
    }

    private static void fillArriving(Run run) {
        for (int length = 3; length <= 16; length++) {
            run.push(0).due(length);
        }
    }

    private static void fillTable(Run run) {
        run.putMany(1, 15, 23);
        run.count(8, 1).due(28);
    }

    private static void fillAll(Run run) {
        prepare(run);
        fillPages(run);
        fillBlocks(run);
        fillDraft(run);
        fillArriving(run);
    }

    private void numbersBeforeFull() {
        Run run = doc.run(NUMBERS_FIRST, PAGES, BLOCKS).of("all is FULL");
        fillAll(run);
        for (int app : new int[] {-1, 6, LEAST, GREATEST}) {
            run.open(app, true, 0, 0).refused();
            run.open(app, false, 0, 0).refused();
            run.take(app).refused();
            run.op(app, 10, 1).refused();
            run.put(app, 99, 1).refused();
        }
        run.openRaw(2, -1, 0).refused();
        run.openRaw(2, 8, 0).refused();
        run.openRaw(2, 0, -1).refused();
        run.openRaw(2, 0, 9).refused();
        run.openRaw(2, 7, 2).refused();
        run.openRaw(2, 7, 1).full();
        run.op(0, -1, 0).refused();
        run.op(0, 12, 0).refused();
        run.op(0, 0, 64).refused();
        run.op(0, 1, -1).refused();
        run.op(0, 6, 32).refused();
        run.op(0, 7, 0, 16, 0).refused();
        run.op(0, 8, 0, 0, -1).refused();
        run.op(0, 9, 0, 15, 15).full();
        run.push(256).refused();
        run.push(-1).refused();
        run.push(255).full();
    }

    private void numbersBeforeBusyAndTaken() {
        Run run = doc.run(NUMBERS_FIRST, PAGES, BLOCKS).of("the word is BUSY");
        prepare(run);
        run.write(0, 0, 2, -1).due(BUSY);
        for (int value : new int[] {-2, BLOCKS, LEAST, GREATEST}) {
            run.write(0, 0, 2, value).refused();
        }
        run.write(0, 0, 2, 1).due(BUSY);
        run.write(0, 0, 3, 1).due(TAKEN);
        run.write(0, 0, 3, BLOCKS).refused();
    }

    /** Every call that acts, each with numbers that fit, but for an application that is not open. */
    private static List<Function<Run, Run>> callsOf(int app) {
        return List.of(run -> run.close(app), run -> run.take(app), run -> run.release(app, 0),
            run -> run.share(app, 0, 1, 1), run -> run.store(app, 0, 0, 1), run -> run.revoke(app, 1, 1),
            run -> run.op(app, 10, 1), run -> run.install(app), run -> run.got(app, -1), run -> run.next(app),
            run -> run.write(app, 0, 0, 1), run -> run.put(app, 10, 1), run -> run.drop(app, 10));
    }

    private void applicationIsOpen() {
        for (int app = 2; app <= 4; app++) {
            for (Function<Run, Run> call : callsOf(app)) {
                dueAfterPreparing(THEN_OPEN, REFUSED, call);
            }
            int closed = app;
            dueAfterPreparing(THEN_OPEN, BindingKernel.NONE, run -> run.fetch(closed, 0, 0));
            dueAfterPreparing(THEN_OPEN, BindingKernel.NONE, run -> run.get(closed, 0));
        }
        for (int app : new int[] {0, 1, 5}) {
            Run run = doc.run(THEN_OPEN, PAGES, BLOCKS).of("closed again");
            prepare(run);
            run.close(app).ok();
            for (Function<Run, Run> call : callsOf(app)) {
                call.apply(run).refused();
            }
            run.fetch(app, 0, 0).none();
            run.get(app, 10).none();
        }
    }

    private void openBeforeFull() {
        Run run = doc.run(THEN_OPEN, PAGES, BLOCKS).of("all is FULL");
        fillAll(run);
        for (int app = 2; app <= 4; app++) {
            run.take(app).refused();
            run.op(app, 10, 1).refused();
            run.put(app, 99, 1).refused();
            run.openMap(app).full();
        }
        run.openMap(0).refused();
        run.openRaw(1, 0, 0).refused();
        run.take(0).full();
        run.op(0, 10, 1).full();
        run.put(1, 15, 1).ok();
    }

    /** What can be learnt of pages, with the calls that show what no question tells. */
    private static void lookAtPages(Run run) {
        for (int page = 0; page < PAGES; page++) {
            run.holder(0, page);
            for (int app : new int[] {0, 1, 5}) {
                run.fetch(app, page, 0);
                run.fetch(app, page, 3);
                run.store(app, page, 3, 7);
            }
        }
        lookAtLists(run);
        for (int time = 1; time <= 21; time++) {
            run.tick(1);
            run.count(0, 0);
        }
        lookAtLists(run);
        for (int app : new int[] {0, 1, 5}) {
            run.take(app);
            run.take(app);
            run.revoke(app, 2, 1);
            run.tick(1);
        }
        lookAtLists(run);
        run.openMap(4);
        run.take(4);
    }

    private static void lookAtLists(Run run) {
        for (int kind = 2; kind < 8; kind++) {
            for (int number = 0; number < 4; number++) {
                run.holder(kind, number);
            }
            run.count(3, kind - 2);
            run.count(4, kind - 2);
        }
    }

    private static void lookAtFrames(Run run) {
        for (int app = 0; app < 6; app++) {
            run.count(5, app);
            run.count(7, app);
        }
        run.count(2, 0);
        run.arrive();
        run.push(1);
        run.arrive();
        for (int app : new int[] {0, 1, 5}) {
            for (int frames = 0; frames < 5; frames++) {
                for (int i = -1; i < 4; i++) {
                    run.got(app, i);
                }
                run.got(app, 15);
                run.next(app);
            }
        }
        lookAtFilters(run);
        for (int app : new int[] {0, 1, 5}) {
            run.op(app, 10, 1);
            run.install(app);
            lookAtFilters(run);
        }
        run.count(2, 0);
    }

    private static void lookAtFilters(Run run) {
        for (int value = 7; value <= 9; value++) {
            run.arrive(value);
        }
        for (int app = 0; app < 6; app++) {
            run.count(7, app);
            run.count(5, app);
            run.next(app);
        }
    }

    private static void lookAtBlocks(Run run) {
        for (int block = 0; block < BLOCKS; block++) {
            run.holder(1, block);
        }
        for (int key = 0; key < 8 * BLOCKS; key++) {
            run.get(0, key);
            if (key >= 16 && key < 24 || key >= 88) {
                run.get(5, key);
            }
        }
        for (int key = 9; key < 38; key++) {
            run.get(1, key);
        }
        for (int app = 0; app < 6; app++) {
            run.count(6, app);
            run.count(8, app);
        }
        for (int word = 0; word < 8; word++) {
            run.write(0, 0, word, BLOCKS);
            run.write(5, 2, word, BLOCKS);
        }
        for (int key = 50; key < 55; key++) {
            run.put(1, key, 3);
            run.count(6, 1);
        }
        for (int app = 0; app < 6; app++) {
            run.openMap(app);
            run.count(6, app);
        }
    }

    /** Of two runs alike one has the call besides; all that can be learnt of them afterwards must be the same. */
    private void changesNothing(Consumer<Run> before, long due, Function<Run, Run> call) {
        List<Consumer<Run>> looks = List.of(CallTerms::lookAtPages, CallTerms::lookAtFrames, CallTerms::lookAtBlocks);
        for (Consumer<Run> look : looks) {
            Run without = doc.run(NOTHING_CHANGES, PAGES, BLOCKS);
            Run with = doc.run(NOTHING_CHANGES, PAGES, BLOCKS);
            before.accept(without);
            before.accept(with);
            call.apply(with).due(due);
            String text = with.history().get(with.history().size() - 1);
            int begin = without.history().size();
            look.accept(without);
            look.accept(with);
            List<String> wanted = without.history().subList(begin, without.history().size());
            List<String> got = with.history().subList(begin + 1, with.history().size());
            compare(text, wanted, got);
        }
    }

    private static void compare(String call, List<String> wanted, List<String> got) {
        for (int i = 0; i < wanted.size(); i++) {
            if (!wanted.get(i).equals(got.get(i))) {
                Run.check("Terms '" + NOTHING_CHANGES + "': after " + call + " comes " + got.get(i)
                    + ", without it " + wanted.get(i), false);
                return;
            }
        }
        Run.check(call + " changes nothing", wanted.size() == got.size());
    }

    private void refused(Function<Run, Run> call) {
        changesNothing(CallTerms::prepare, REFUSED, call);
    }

    private void refusedCallsChangeNothing() {
        refused(run -> run.openMap(6));
        refused(run -> run.openMap(0));
        refused(run -> run.openMap(1));
        refused(run -> run.openRaw(0, 0, 0));
        refused(run -> run.openRaw(1, 0, 8));
        refused(run -> run.openRaw(2, 8, 0));
        refused(run -> run.openRaw(4, 7, 2));
        refused(run -> run.release(1, 0));
        refused(run -> run.release(0, PAGES - 1));
        refused(run -> run.release(0, -1));
        refused(run -> run.share(0, 0, 0, 1));
        refused(run -> run.share(0, 0, 2, 1));
        refused(run -> run.share(0, 0, 4, 2));
        refused(run -> run.share(0, 1, 1, 3));
        refused(run -> run.share(0, 1, 1, -1));
        refused(run -> run.share(1, 1, 5, 1));
        refused(run -> run.share(0, PAGES - 1, 5, 2));
        refused(run -> run.store(1, 1, 0, 99));
        refused(run -> run.store(5, 1, 3, 99));
        refused(run -> run.store(0, 4, 0, 99));
        refused(run -> run.store(0, 0, 4, 99));
        refused(run -> run.store(0, 1, -1, 99));
        refused(run -> run.store(0, PAGES - 1, 0, 99));
        refused(run -> run.revoke(1, 0, 1));
        refused(run -> run.revoke(1, 9, 1));
        refused(run -> run.revoke(1, 1, 0));
        refused(run -> run.revoke(1, 1, 21));
        refused(run -> run.tick(0));
        refused(run -> run.tick(-1));
        refused(run -> run.tick(101));
        refused(run -> run.op(0, 12, 0));
        refused(run -> run.op(0, -1, 0));
        refused(run -> run.op(0, 0, 64));
        refused(run -> run.op(1, 6, 32));
        refused(run -> run.op(1, 7, 0, 0, 16));
        refused(run -> run.op(5, 8, 0, -1, 0));
        refused(run -> run.push(256));
        refused(run -> run.push(-1));
        refused(run -> run.got(0, 1));
        refused(run -> run.got(5, -1));
        refused(run -> run.next(5));
        refused(run -> run.write(1, 1, 0, 9));
        refused(run -> run.write(1, 3, 0, 9));
        refused(run -> run.write(0, 2, 0, 9));
        refused(run -> run.write(0, 7, 0, 9));
        refused(run -> run.write(0, 0, 8, 9));
        refused(run -> run.write(0, 5, -1, 9));
        refused(run -> run.write(0, 0, 2, BLOCKS));
        refused(run -> run.write(0, 0, 3, -2));
        refused(run -> run.write(0, 5, 3, -2));
        refused(run -> run.put(0, 10, 1));
        refused(run -> run.put(5, 10, 1));
        refused(run -> run.drop(0, 10));
        refused(run -> run.drop(1, 9));
        refused(run -> run.drop(1, 15));
        refused(run -> run.holder(8, 0));
        refused(run -> run.count(9, 0));
        for (Function<Run, Run> call : callsOf(4)) {
            refused(call);
        }
        changesNothing(CallTerms::prepare, BindingKernel.NONE, run -> run.fetch(5, 0, 0));
        changesNothing(CallTerms::prepare, BindingKernel.NONE, run -> run.get(1, 99));
        changesNothing(CallTerms::prepare, BindingKernel.NONE, run -> run.get(0, 8 * BLOCKS));
    }

    private void fullCallsChangeNothing() {
        Consumer<Run> prepared = CallTerms::prepare;
        Consumer<Run> blocks = prepared.andThen(CallTerms::fillBlocks);
        changesNothing(blocks, FULL, run -> run.openMap(4));
        changesNothing(blocks, FULL, run -> run.openRaw(4, 0, 1));
        changesNothing(prepared.andThen(CallTerms::fillPages), FULL, run -> run.take(0));
        changesNothing(prepared.andThen(CallTerms::fillDraft), FULL, run -> run.op(0, 10, 1));
        changesNothing(prepared.andThen(CallTerms::fillArriving), FULL, run -> run.push(9));
        changesNothing(prepared.andThen(CallTerms::fillTable), FULL, run -> run.put(1, 99, 1));
        Consumer<Run> eight = prepared.andThen(run -> run.putMany(1, 15, 3)).andThen(CallTerms::fillBlocks);
        changesNothing(eight, FULL, run -> run.put(1, 37, 1));
    }

    private void busyAndTakenChangeNothing() {
        for (int value : new int[] {-1, 7, 11, 0, 1}) {
            changesNothing(CallTerms::prepare, BUSY, run -> run.write(0, 0, 2, value));
        }
        for (int value : new int[] {0, 1, 2, 3, 5}) {
            changesNothing(CallTerms::prepare, TAKEN, run -> run.write(0, 0, 3, value));
            changesNothing(CallTerms::prepare, TAKEN, run -> run.write(0, 5, 3, value));
        }
    }

    /** The answers below 0 that are said to be outcomes. */
    private void outcomesDoChange() {
        Run run = doc.run(NOTHING_CHANGES, PAGES, BLOCKS).of("outcomes are no refusals");
        prepare(run);
        run.arrive().due(1);
        run.arrive(9, 9).due(BindingKernel.LOST);
        run.count(2, 0).due(2);
        run.push(7).due(1);
        run.arrive().refused();
        run.push(7).due(1);
        run.op(5, 2, 0).due(0);
        run.install(5).due(BindingKernel.BAD);
        run.op(5, 2, 0).due(0);
    }
}
