/** Promise 5: release. */
final class ReleaseTest {
    private static final Document DOC = new Document("Promise 5: release");

    public static void main(String[] args) {
        pagesInRange();
        pageIsFree();
        rightsOfAllEnd();
        notTheOwner();
        answersOk();
        DOC.end();
    }

    private static void pagesInRange() {
        Run run = DOC.run("The app gives page 0 .. PAGES - 1 back:", 5, 4);
        run.release(0, 0).refused();
        run.openMap(0).ok();
        run.takeTimes(0, 5);
        for (int app : new int[] {-1, 6, 1, Integer.MIN_VALUE, Integer.MAX_VALUE}) {
            run.release(app, 0).refused();
        }
        for (int page : new int[] {-1, 5, Integer.MIN_VALUE, Integer.MAX_VALUE}) {
            run.release(0, page).refused();
        }
        run.count(3, 0).due(5);
        run.release(0, 4).ok();
        run.release(0, 0).ok();
        run.count(3, 0).due(3);
        run.holder(0, 4).refused();
        run.holder(0, 0).refused();
        run.holder(0, 1).due(0);
    }

    private static void pageIsFree() {
        Run run = DOC.run("it is FREE.", 4, 4);
        run.openMaps(0, 2);
        run.takeTimes(0, 4);
        run.share(0, 3, 1, 2).ok();
        run.revoke(0, 1, 3).due(1);
        run.release(0, 3).ok();
        run.count(0, 0).due(1);
        run.count(4, 0).due(0);
        run.fetch(0, 3, 0).none();
        run.fetch(1, 3, 0).none();
        run.take(2).due(3);
        run.fetch(1, 3, 0).none();
        run.store(1, 3, 0, 1).refused();
        run.store(0, 3, 0, 1).refused();
        run.count(4, 2).due(0);
        run.tick(3).due(0);
        run.holder(0, 3).due(2);
        run.holder(2, 0).refused();
        run.holder(4, 0).refused();
    }

    private static void rightsOfAllEnd() {
        for (int owner = 0; owner < 6; owner++) {
            Run run = DOC.run("it is FREE.", 4, 6).of("rights to a page of " + owner);
            run.openMaps(0, 5);
            run.take(owner).due(0);
            for (int app = 0; app < 6; app++) {
                run.share(owner, 0, app, 2).due(app == owner ? BindingKernel.REFUSED : BindingKernel.OK);
            }
            run.release(owner, 0).ok();
            int nextOwner = (owner + 1) % 6;
            run.take(nextOwner).due(0);
            for (int app = 0; app < 6; app++) {
                run.fetch(app, 0, 0).due(app == nextOwner ? 0 : BindingKernel.NONE);
            }
        }
    }

    private static void notTheOwner() {
        Run run = DOC.run("app is not its owner: REFUSED.", 4, 4);
        run.openMaps(0, 1);
        run.take(0).due(0);
        run.release(1, 0).refused();
        run.share(0, 0, 1, 2).ok();
        run.release(1, 0).refused();
        run.release(0, 1).refused();
        run.release(1, 1).refused();
        run.holder(0, 0).due(0);
        run.release(0, 0).ok();
        run.release(0, 0).refused();
        run.take(1).due(0);
        run.release(0, 0).refused();
        run.holder(0, 0).due(1);
    }

    private static void answersOk() {
        Run run = DOC.run("Else OK.", 32, 4);
        run.openMap(5).ok();
        run.takeTimes(5, 32);
        for (int page = 0; page < 32; page++) {
            run.release(5, page).ok();
        }
        run.count(0, 0).due(32);
    }
}
