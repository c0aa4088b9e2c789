/** Promise 6: share. */
final class ShareTest {
    public static void main(String[] args) {
        wrongNumbers();
        ownerOnly();
        rightsChange();
        rightsAreByPageAndApp();
        Run.end();
    }

    private static void wrongNumbers() {
        Run run = new Run("share: wrong numbers", 4, 4);
        run.openMap(0).ok();
        run.openMap(1).ok();
        run.takeTimes(0, 4);
        run.share(-1, 0, 1, 1).refused();
        run.share(6, 0, 1, 1).refused();
        run.share(0, -1, 1, 1).refused();
        run.share(0, 4, 1, 1).refused();
        run.share(0, 0, -1, 1).refused();
        run.share(0, 0, 6, 1).refused();
        run.share(0, 0, 1, -1).refused();
        run.share(0, 0, 1, 3).refused();
        run.share(0, 0, Integer.MAX_VALUE, 1).refused();
        run.share(0, Integer.MIN_VALUE, 1, 1).refused();
        run.share(0, 0, 1, Integer.MIN_VALUE).refused();
        run.fetch(1, 0, 0).none();
    }

    private static void ownerOnly() {
        Run run = new Run("share: owner only", 4, 4);
        run.openMap(0).ok();
        run.openMap(1).ok();
        run.openMap(2).ok();
        run.take(0).due(0);
        run.share(0, 0, 0, 1).refused();
        run.share(0, 0, 0, 0).refused();
        run.share(0, 0, 3, 1).refused();
        run.share(3, 0, 1, 1).refused();
        run.share(0, 1, 1, 1).refused();
        run.share(0, 0, 1, 2).ok();
        run.share(1, 0, 2, 1).refused();
        run.fetch(2, 0, 0).none();
        run.openMap(3).ok();
        run.fetch(3, 0, 0).none();
        run.store(0, 0, 0, 5).ok();
        run.fetch(0, 0, 0).due(5);
    }

    private static void rightsChange() {
        Run run = new Run("share: rights change", 4, 4);
        run.openMap(0).ok();
        run.openMap(1).ok();
        run.take(0).due(0);
        run.fetch(1, 0, 0).none();
        run.share(0, 0, 1, 1).ok();
        run.fetch(1, 0, 0).due(0);
        run.store(1, 0, 0, 3).refused();
        run.share(0, 0, 1, 2).ok();
        run.store(1, 0, 0, 3).ok();
        run.fetch(1, 0, 0).due(3);
        run.share(0, 0, 1, 1).ok();
        run.store(1, 0, 0, 4).refused();
        run.fetch(1, 0, 0).due(3);
        run.share(0, 0, 1, 0).ok();
        run.fetch(1, 0, 0).none();
        run.store(1, 0, 0, 4).refused();
        run.fetch(0, 0, 0).due(3);
    }

    private static void rightsAreByPageAndApp() {
        Run run = new Run("share: by page and app", 4, 6);
        for (int app = 0; app < 6; app++) {
            run.openMap(app).ok();
        }
        run.takeTimes(2, 4);
        run.share(2, 1, 5, 1).ok();
        run.share(2, 2, 0, 2).ok();
        for (int page = 0; page < 4; page++) {
            for (int app = 0; app < 6; app++) {
                boolean mayRead = app == 2 || page == 1 && app == 5 || page == 2 && app == 0;
                run.fetch(app, page, 3).due(mayRead ? 0 : BindingKernel.NONE);
            }
        }
    }
}
