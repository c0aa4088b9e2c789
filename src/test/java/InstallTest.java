/** Promise 12: install. */
final class InstallTest {
    private static final Document DOC = new Document("Promise 12: install");
    private static final String ENDS_DRAFT = "Ends app's draft, which is empty then in every case but REFUSED.";
    private static final String EMPTY = "It is empty: app has no filter from now on: OK.";
    private static final String NO_FOLLOWER = "A following instruction of one with code 0 .. 9 (for 7 .. 9 either)"
        + " is not among the draft's: BAD,";
    private static final String IN_PLACE = "Else the draft is app's filter, in place of the former one,";
    private static final int BAD = BindingKernel.BAD;

    public static void main(String[] args) {
        draftIsEmptyThen();
        onlyAnOpenOneInstalls();
        emptyDraft();
        emptyDraftMovesOthersUp();
        followersOfPlainInstructions();
        followersOfTests();
        oneJumpTooFarInALongDraft();
        unreachableInstructions();
        badKeepsTheFilter();
        draftTakesThePlace();
        standsLast();
        DOC.end();
    }

    private static void draftIsEmptyThen() {
        Run run = DOC.run(ENDS_DRAFT, 4, 4);
        run.openMaps(0, 1);
        run.op(1, 10, 1).due(0);
        run.installAcceptAll(0);
        run.op(0, 10, 1).due(0);
        run.install(0).ok();
        run.op(0, 2, 0).due(0);
        run.op(0, 2, 0).due(1);
        run.install(0).due(BAD);
        run.op(0, 10, 1).due(0);
        run.install(0).ok();
        run.install(0).ok();
        run.op(0, 10, 1).due(0);
        run.op(1, 10, 1).due(1);
    }

    private static void onlyAnOpenOneInstalls() {
        Run run = DOC.run(ENDS_DRAFT, 4, 4).of("REFUSED");
        run.install(0).refused();
        run.openMap(0).ok();
        run.op(0, 10, 1).due(0);
        for (int app : new int[] {-1, 6, 1, Integer.MIN_VALUE, Integer.MAX_VALUE}) {
            run.install(app).refused();
        }
        run.op(0, 10, 1).due(1);
        run.install(0).ok();
        run.close(0).ok();
        run.install(0).refused();
    }

    private static void emptyDraft() {
        Run run = DOC.run(EMPTY, 4, 4);
        run.openMap(0).ok();
        run.install(0).ok();
        run.count(7, 0).due(0);
        run.installAcceptAll(0);
        run.arrive(4).due(0);
        run.install(0).ok();
        run.count(7, 0).due(0);
        run.arrive(4).refused();
        run.count(5, 0).due(1);
        run.install(0).ok();
        run.installAcceptAll(0);
        run.count(7, 0).due(1);
    }

    private static void emptyDraftMovesOthersUp() {
        Run run = DOC.run(EMPTY, 4, 4).of("the others move up");
        run.openMaps(0, 2);
        for (int app = 0; app < 3; app++) {
            run.installAcceptAll(app);
        }
        run.install(0).ok();
        run.count(7, 0).due(0);
        run.count(7, 1).due(1);
        run.count(7, 2).due(2);
        run.arrive().due(1);
        run.installAcceptAll(0);
        run.count(7, 0).due(3);
    }

    private static void followersOfPlainInstructions() {
        for (int code = 0; code <= 11; code++) {
            Run run = DOC.run(NO_FOLLOWER, 4, 4).of("code " + code + " at the end");
            run.openMap(0).ok();
            run.op(0, code, 1, 0, 0).due(0);
            run.install(0).due(code < 10 ? BAD : BindingKernel.OK);
            run.count(7, 0).due(code < 10 ? 0 : 1);
            run.op(0, 10, 1).due(0);
            run.op(0, code, 1, 0, 0).due(1);
            run.install(0).due(code < 10 ? BAD : BindingKernel.OK);
            run.op(0, code, 1, 0, 0).due(0);
            run.op(0, 11, 0).due(1);
            run.install(0).ok();
        }
    }

    private static void followersOfTests() {
        for (int code = 7; code <= 9; code++) {
            for (int yes = 0; yes <= 15; yes++) {
                for (int no = 0; no <= 15; no++) {
                    Run run = DOC.run(NO_FOLLOWER, 4, 4).of("test " + code + " jumping " + yes + ", " + no);
                    run.openMap(0).ok();
                    run.op(0, code, 1, yes, no).due(0);
                    run.op(0, 10, 1).due(1);
                    run.op(0, 10, 1).due(2);
                    run.op(0, 10, 1).due(3);
                    run.install(0).due(yes <= 2 && no <= 2 ? BindingKernel.OK : BAD);
                }
            }
        }
    }

    private static void oneJumpTooFarInALongDraft() {
        for (int at = 0; at < 15; at++) {
            for (int beyond = 0; beyond <= 1; beyond++) {
                Run run = DOC.run(NO_FOLLOWER, 4, 4).of("a jump from " + at + ", beyond " + beyond);
                run.openMap(0).ok();
                for (int i = 0; i < 16; i++) {
                    boolean isJump = i == at;
                    run.op(0, isJump ? 8 : 10, 0, isJump ? 14 - at + beyond : 0, 0).due(i);
                }
                run.install(0).due(beyond == 0 ? BindingKernel.OK : BAD);
            }
        }
    }

    private static void unreachableInstructions() {
        Run run = DOC.run(NO_FOLLOWER, 4, 4).of("instructions that no run comes to");
        run.openMap(0).ok();
        run.op(0, 10, 1).due(0);
        run.op(0, 2, 0).due(1);
        run.install(0).due(BAD);
        run.op(0, 10, 1).due(0);
        run.op(0, 7, 0, 1, 0).due(1);
        run.op(0, 10, 1).due(2);
        run.install(0).due(BAD);
        run.count(7, 0).due(0);
        run.arrive().refused();
    }

    private static void badKeepsTheFilter() {
        Run run = DOC.run("app's filter stays.", 4, 4);
        run.openMaps(0, 2);
        run.installFirstByte(0, 4);
        run.installAcceptAll(1);
        run.op(0, 2, 0).due(0);
        run.install(0).due(BAD);
        run.count(7, 0).due(1);
        run.count(7, 1).due(2);
        run.arrive(4).due(0);
        run.arrive(5).due(1);
        run.op(2, 3, 0).due(0);
        run.install(2).due(BAD);
        run.count(7, 2).due(0);
    }

    private static void draftTakesThePlace() {
        Run run = DOC.run(IN_PLACE, 4, 4);
        run.openMap(0).ok();
        run.installFirstByte(0, 1);
        run.arrive(1).due(0);
        run.arrive(2).refused();
        run.op(0, 0, 0).due(0);
        run.op(0, 7, 2, 0, 1).due(1);
        run.op(0, 10, 1).due(2);
        run.op(0, 10, 0).due(3);
        run.arrive(1).due(0);
        run.install(0).ok();
        run.arrive(1).refused();
        run.arrive(2).due(0);
        run.count(7, 0).due(1);
        run.op(0, 10, 0).due(0);
        run.install(0).ok();
        run.arrive(2).refused();
        run.count(7, 0).due(1);
        run.installFirstByte(0, 3);
        run.arrive(3).due(0);
    }

    private static void standsLast() {
        Run run = DOC.run("and stands last: OK.", 4, 6);
        run.openMaps(0, 5);
        for (int app = 5; app >= 0; app--) {
            run.installAcceptAll(app);
            run.count(7, app).due(6 - app);
        }
        run.arrive().due(5);
        run.installAcceptAll(5);
        run.arrive().due(4);
        run.count(7, 5).due(6);
        run.installAcceptAll(2);
        int[] places = {4, 3, 6, 2, 1, 5};
        for (int app = 0; app < 6; app++) {
            run.count(7, app).due(places[app]);
        }
        run.installAcceptAll(2);
        run.count(7, 2).due(6);
        run.installFirstByte(4, 8);
        run.arrive(8).due(3);
    }
}
