/** Promise 6: share. */
final class ShareTest {
    private static final Document DOC = new Document("Promise 6: share");
    private static final String SETS = "The owner app sets the right 0 .. 2 of application to 0 .. 5 to the page.";
    private static final String REFUSALS = "app is not its owner, to is app or not open: REFUSED.";
    private static final int[] NO_APPS = {-1, 6, Integer.MIN_VALUE, Integer.MAX_VALUE};

    public static void main(String[] args) {
        numbersInRange();
        rightsChange();
        rightsAreByPageAndApp();
        everyAppToEveryOther();
        notTheOwner();
        toItself();
        toOneThatIsNotOpen();
        answersOk();
        DOC.end();
    }

    private static void numbersInRange() {
        Run run = DOC.run(SETS, 4, 4).of("out of range");
        run.openMaps(0, 1);
        run.takeTimes(0, 4);
        for (int app : NO_APPS) {
            run.share(app, 0, 1, 1).refused();
            run.share(0, 0, app, 1).refused();
        }
        for (int page : new int[] {-1, 4, Integer.MIN_VALUE, Integer.MAX_VALUE}) {
            run.share(0, page, 1, 1).refused();
        }
        for (int right : new int[] {-1, 3, Integer.MIN_VALUE, Integer.MAX_VALUE}) {
            run.share(0, 0, 1, right).refused();
        }
        for (int page = 0; page < 4; page++) {
            run.fetch(1, page, 0).none();
        }
        run.share(0, 3, 1, 1).ok();
        run.fetch(1, 3, 0).due(0);
        run.share(0, 3, 1, 3).refused();
        run.share(0, 3, 1, -1).refused();
        run.fetch(1, 3, 0).due(0);
        run.store(1, 3, 0, 1).refused();
    }

    private static void rightsChange() {
        int[][] changes = {{0, 0}, {0, 1}, {0, 2}, {1, 0}, {1, 1}, {1, 2}, {2, 0}, {2, 1}, {2, 2}};
        for (int[] change : changes) {
            Run run = DOC.run(SETS, 4, 4).of("from " + change[0] + " to " + change[1]);
            run.openMaps(0, 1);
            run.take(0).due(0);
            run.store(0, 0, 1, 6).ok();
            for (int right : change) {
                run.share(0, 0, 1, right).ok();
                run.fetch(1, 0, 1).due(right > 0 ? 6 : BindingKernel.NONE);
                run.store(1, 0, 1, 6).due(right > 1 ? BindingKernel.OK : BindingKernel.REFUSED);
            }
        }
    }

    private static void rightsAreByPageAndApp() {
        Run run = DOC.run(SETS, 4, 6).of("by page and application");
        run.openMaps(0, 5);
        run.takeTimes(2, 4);
        run.share(2, 1, 5, 1).ok();
        run.share(2, 2, 0, 2).ok();
        for (int page = 0; page < 4; page++) {
            for (int app = 0; app < 6; app++) {
                boolean mayRead = app == 2 || page == 1 && app == 5 || page == 2 && app == 0;
                run.fetch(app, page, 3).due(mayRead ? 0 : BindingKernel.NONE);
            }
        }
    }

    private static void everyAppToEveryOther() {
        Run run = DOC.run(SETS, 6, 6).of("every application to every other");
        run.openMaps(0, 5);
        for (int app = 0; app < 6; app++) {
            run.take(app).due(app);
        }
        for (int app = 0; app < 6; app++) {
            for (int to = 0; to < 6; to++) {
                if (to != app) {
                    run.fetch(to, app, 0).none();
                    run.share(app, app, to, 1).ok();
                    run.fetch(to, app, 0).due(0);
                }
            }
        }
    }

    private static void notTheOwner() {
        Run run = DOC.run(REFUSALS, 4, 4).of("not the owner");
        run.openMaps(0, 2);
        run.take(0).due(0);
        run.share(1, 0, 2, 1).refused();
        run.share(0, 0, 1, 2).ok();
        run.share(1, 0, 2, 1).refused();
        run.share(1, 0, 0, 1).refused();
        run.share(0, 1, 1, 1).refused();
        run.fetch(2, 0, 0).none();
        run.take(1).due(1);
        run.fetch(2, 1, 0).none();
        run.release(0, 0).ok();
        run.share(0, 0, 1, 1).refused();
    }

    private static void toItself() {
        Run run = DOC.run(REFUSALS, 4, 4).of("to itself");
        run.openMap(0).ok();
        run.take(0).due(0);
        for (int right = 0; right <= 2; right++) {
            run.share(0, 0, 0, right).refused();
            run.store(0, 0, 0, right).ok();
            run.fetch(0, 0, 0).due(right);
        }
    }

    private static void toOneThatIsNotOpen() {
        Run run = DOC.run(REFUSALS, 4, 4).of("to one that is not open");
        run.openMaps(0, 1);
        run.take(0).due(0);
        run.close(1).ok();
        for (int to = 1; to < 6; to++) {
            for (int right = 0; right <= 2; right++) {
                run.share(0, 0, to, right).refused();
            }
        }
        run.openMaps(1, 3);
        for (int to = 1; to <= 3; to++) {
            run.fetch(to, 0, 0).none();
        }
        run.share(4, 0, 1, 1).refused();
    }

    private static void answersOk() {
        Run run = DOC.run("Else OK.", 4, 4);
        run.openMaps(0, 1);
        run.takeTimes(0, 4);
        run.revoke(0, 1, 5).due(1);
        for (int page = 0; page < 4; page++) {
            run.share(0, page, 1, 2).ok();
            run.share(0, page, 1, 2).ok();
            run.share(0, page, 1, 0).ok();
            run.share(0, page, 1, 0).ok();
        }
    }
}
