/** Promise 5: release. */
final class ReleaseTest {
    public static void main(String[] args) {
        wrongNumbers();
        onlyTheOwner();
        rightsAndNamingEnd();
        rightsOfAllEnd();
        Run.end();
    }

    private static void wrongNumbers() {
        Run run = new Run("release: wrong numbers", 5, 4);
        run.release(0, 0).refused();
        run.openMap(0).ok();
        run.takeTimes(0, 5);
        run.release(-1, 0).refused();
        run.release(6, 0).refused();
        run.release(1, 0).refused();
        run.release(0, -1).refused();
        run.release(0, 5).refused();
        run.release(0, Integer.MAX_VALUE).refused();
        run.release(0, Integer.MIN_VALUE).refused();
        run.release(0, 4).ok();
        run.count(0, 0).due(1);
    }

    private static void onlyTheOwner() {
        Run run = new Run("release: only the owner", 4, 4);
        run.openMap(0).ok();
        run.openMap(1).ok();
        run.take(0).due(0);
        run.share(0, 0, 1, 2).ok();
        run.release(1, 0).refused();
        run.release(0, 1).refused();
        run.release(0, 0).ok();
        run.holder(0, 0).refused();
        run.release(0, 0).refused();
    }

    private static void rightsAndNamingEnd() {
        Run run = new Run("release: rights and naming end", 4, 4);
        run.openMap(0).ok();
        run.openMap(1).ok();
        run.openMap(2).ok();
        run.takeTimes(0, 3);
        run.share(0, 2, 1, 2).ok();
        run.revoke(0, 1, 3).due(1);
        run.release(0, 2).ok();
        run.fetch(1, 2, 0).none();
        run.take(2).due(2);
        run.fetch(1, 2, 0).none();
        run.store(1, 2, 0, 1).refused();
        run.count(4, 2).due(0);
        run.tick(3).due(0);
        run.holder(0, 2).due(2);
        run.holder(2, 0).refused();
    }

    private static void rightsOfAllEnd() {
        for (int owner = 0; owner < 6; owner++) {
            Run run = new Run("release: rights of all to a page of " + owner, 4, 6);
            for (int app = 0; app < 6; app++) {
                run.openMap(app).ok();
            }
            run.take(owner).due(0);
            for (int app = 0; app < 6; app++) {
                run.share(owner, 0, app, 2).due(app == owner ? BindingKernel.REFUSED : BindingKernel.OK);
            }
            run.release(owner, 0).ok();
            int nextOwner = (owner + 1) % 6;
            run.take(nextOwner).due(0);
            for (int app = 0; app < 6; app++) {
                run.fetch(app, 0, 0).due(app == nextOwner ? 0 : BindingKernel.NONE);
            }
        }
    }
}
