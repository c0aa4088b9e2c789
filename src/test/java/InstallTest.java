/** Promise 12: install. */
final class InstallTest {
    public static void main(String[] args) {
        wrongApps();
        emptyDraft();
        followersOfPlainInstructions();
        followersOfTests();
        unreachableInstructionsCount();
        badKeepsTheFilter();
        newFilterStandsLast();
        emptyDraftMovesOthersUp();
        Run.end();
    }

    private static void wrongApps() {
        Run run = new Run("install: wrong apps", 4, 4);
        run.install(-1).refused();
        run.install(6).refused();
        run.install(0).refused();
        run.openMap(0).ok();
        run.install(1).refused();
        run.install(0).ok();
    }

    private static void emptyDraft() {
        Run run = new Run("install: empty draft", 4, 4);
        run.openMap(0).ok();
        run.install(0).ok();
        run.count(7, 0).due(0);
        run.installAcceptAll(0);
        run.count(7, 0).due(1);
        run.arrive().due(0);
        run.install(0).ok();
        run.count(7, 0).due(0);
        run.arrive().refused();
        run.count(5, 0).due(1);
    }

    private static void followersOfPlainInstructions() {
        for (int code = 0; code <= 11; code++) {
            Run run = new Run("install: ends with " + code, 4, 4);
            run.openMap(0).ok();
            run.op(0, code, 1, 0, 0).due(0);
            run.install(0).due(code < 10 ? BindingKernel.BAD : BindingKernel.OK);
            run.op(0, code, 1, 0, 0).due(0);
            run.op(0, 11, 0).due(1);
            run.install(0).ok();
            run.op(0, 11, 0).due(0);
        }
        Run run = new Run("install: jumps that are not looked at", 4, 4);
        run.openMap(0).ok();
        run.op(0, 2, 0, 99, -99).due(0);
        run.op(0, 4, 1, Integer.MAX_VALUE, Integer.MAX_VALUE).due(1);
        run.op(0, 11, 0, 15, 15).due(2);
        run.install(0).ok();
        run.arrive().due(0);
    }

    private static void followersOfTests() {
        for (int code = 7; code <= 9; code++) {
            for (int yes = 0; yes <= 15; yes++) {
                for (int no = 0; no <= 15; no++) {
                    Run run = new Run("install: test " + code + " jumping " + yes + ", " + no, 4, 4);
                    run.openMap(0).ok();
                    run.op(0, code, 1, yes, no).due(0);
                    run.op(0, 10, 1).due(1);
                    run.op(0, 10, 1).due(2);
                    run.op(0, 10, 1).due(3);
                    run.install(0).due(yes <= 2 && no <= 2 ? BindingKernel.OK : BindingKernel.BAD);
                }
            }
        }
        Run run = new Run("install: the farthest jump", 4, 4);
        run.openMap(0).ok();
        run.op(0, 7, 0, 14, 0).due(0);
        for (int i = 1; i < 15; i++) {
            run.op(0, 10, 0).due(i);
        }
        run.op(0, 10, 1).due(15);
        run.install(0).ok();
        run.arrive().due(0);
    }

    private static void unreachableInstructionsCount() {
        Run run = new Run("install: unreachable instructions", 4, 4);
        run.openMap(0).ok();
        run.op(0, 10, 1).due(0);
        run.op(0, 2, 0).due(1);
        run.install(0).due(BindingKernel.BAD);
        run.count(7, 0).due(0);
        run.arrive().refused();
    }

    private static void badKeepsTheFilter() {
        Run run = new Run("install: BAD keeps the filter", 4, 4);
        run.openMap(0).ok();
        run.openMap(1).ok();
        run.installFirstByte(0, 4);
        run.installAcceptAll(1);
        run.op(0, 2, 0).due(0);
        run.install(0).due(BindingKernel.BAD);
        run.count(7, 0).due(1);
        run.count(7, 1).due(2);
        run.arrive(4).due(0);
        run.arrive(5).due(1);
        run.op(0, 11, 0).due(0);
    }

    private static void newFilterStandsLast() {
        Run run = new Run("install: stands last", 4, 6);
        for (int app = 0; app < 6; app++) {
            run.openMap(app).ok();
        }
        for (int app = 5; app >= 0; app--) {
            run.installAcceptAll(app);
        }
        for (int app = 0; app < 6; app++) {
            run.count(7, app).due(6 - app);
        }
        run.arrive().due(5);
        run.installAcceptAll(5);
        run.arrive().due(4);
        run.count(7, 5).due(6);
        run.installAcceptAll(2);
        run.count(7, 4).due(1);
        run.count(7, 3).due(2);
        run.count(7, 1).due(3);
        run.count(7, 0).due(4);
        run.count(7, 5).due(5);
        run.count(7, 2).due(6);
        run.installFirstByte(4, 8);
        run.arrive(1).due(3);
    }

    private static void emptyDraftMovesOthersUp() {
        Run run = new Run("install: an empty draft", 4, 4);
        run.openMap(0).ok();
        run.openMap(1).ok();
        run.openMap(2).ok();
        run.installAcceptAll(0);
        run.installAcceptAll(1);
        run.installAcceptAll(2);
        run.install(1).ok();
        run.count(7, 0).due(1);
        run.count(7, 1).due(0);
        run.count(7, 2).due(2);
        run.installAcceptAll(1);
        run.count(7, 1).due(3);
    }
}
