/** Promise 11: op. */
final class OpTest {
    private static final int LEAST = Integer.MIN_VALUE;
    private static final int GREATEST = Integer.MAX_VALUE;

    public static void main(String[] args) {
        wrongAppsAndCodes();
        operandRanges();
        jumpRanges();
        sixteenAtMost();
        draftsAreApart();
        Run.end();
    }

    private static void wrongAppsAndCodes() {
        Run run = new Run("op: wrong numbers", 4, 4);
        run.op(0, 2, 0).refused();
        run.openMap(0).ok();
        run.op(-1, 2, 0).refused();
        run.op(6, 2, 0).refused();
        run.op(1, 2, 0).refused();
        run.op(0, -1, 0).refused();
        run.op(0, 12, 0).refused();
        run.op(0, LEAST, 0).refused();
        run.op(0, GREATEST, 0).refused();
        run.op(0, 2, 0).due(0);
    }

    private static void operandRanges() {
        for (int code = 0; code <= 11; code++) {
            Run run = new Run("op: operands of " + code, 4, 4);
            run.openMap(0).ok();
            boolean isLoad = code <= 1;
            boolean isShift = code == 6;
            boolean isAny = !isLoad && !isShift;
            int next = 0;
            next = tryOperand(run, code, 0, true, next);
            next = tryOperand(run, code, 31, true, next);
            next = tryOperand(run, code, 32, !isShift, next);
            next = tryOperand(run, code, 63, !isShift, next);
            next = tryOperand(run, code, 64, isAny, next);
            next = tryOperand(run, code, -1, isAny, next);
            next = tryOperand(run, code, LEAST, isAny, next);
            tryOperand(run, code, GREATEST, isAny, next);
        }
    }

    private static int tryOperand(Run run, int code, int k, boolean fits, int next) {
        run.op(0, code, k).due(fits ? next : BindingKernel.REFUSED);
        return fits ? next + 1 : next;
    }

    private static void jumpRanges() {
        for (int code = 0; code <= 11; code++) {
            Run run = new Run("op: jumps of " + code, 4, 4);
            run.openMap(0).ok();
            boolean isAny = code < 7 || code > 9;
            int next = 0;
            next = tryJumps(run, code, 0, 15, true, next);
            next = tryJumps(run, code, 15, 0, true, next);
            next = tryJumps(run, code, 16, 0, isAny, next);
            next = tryJumps(run, code, 0, 16, isAny, next);
            next = tryJumps(run, code, -1, 0, isAny, next);
            next = tryJumps(run, code, 0, -1, isAny, next);
            next = tryJumps(run, code, GREATEST, LEAST, isAny, next);
            tryJumps(run, code, LEAST, GREATEST, isAny, next);
        }
    }

    private static int tryJumps(Run run, int code, int yes, int no, boolean fits, int next) {
        run.op(0, code, 5, yes, no).due(fits ? next : BindingKernel.REFUSED);
        return fits ? next + 1 : next;
    }

    private static void sixteenAtMost() {
        Run run = new Run("op: sixteen at most", 4, 4);
        run.openMap(0).ok();
        for (int i = 0; i < 16; i++) {
            run.op(0, 10, i).due(i);
        }
        run.op(0, 10, 1).full();
        run.op(0, 12, 1).refused();
        run.op(1, 10, 1).refused();
        run.install(0).ok();
        run.op(0, 10, 1).due(0);
    }

    private static void draftsAreApart() {
        Run run = new Run("op: drafts are apart", 4, 4);
        run.openMap(0).ok();
        run.openMap(1).ok();
        run.op(0, 10, 0).due(0);
        run.op(1, 10, 1).due(0);
        run.op(0, 10, 1).due(1);
        run.op(1, 10, 0).due(1);
        run.install(1).ok();
        run.op(0, 2, 0).due(2);
        run.arrive().due(1);
    }
}
