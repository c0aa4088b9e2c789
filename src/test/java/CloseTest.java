/** Promise 3: close. */
final class CloseTest {
    public static void main(String[] args) {
        notOpen();
        pagesAndRightsEnd();
        blocksEnd();
        filterFramesAndDraftEnd();
        listStays();
        Run.end();
    }

    private static void notOpen() {
        Run run = new Run("close: not open", 4, 4);
        run.close(-1).refused();
        run.close(6).refused();
        run.close(0).refused();
        run.openMap(0).ok();
        run.close(1).refused();
        run.close(0).ok();
        run.close(0).refused();
    }

    private static void pagesAndRightsEnd() {
        Run run = new Run("close: pages and rights", 8, 8);
        run.openMap(0).ok();
        run.openMap(1).ok();
        run.takeTimes(0, 4);
        run.take(1).due(4);
        run.share(1, 4, 0, 2).ok();
        run.share(0, 0, 1, 2).ok();
        run.revoke(0, 1, 5).due(1);
        run.close(0).ok();
        run.count(0, 0).due(7);
        run.holder(0, 0).refused();
        run.holder(0, 4).due(1);
        run.fetch(1, 0, 0).none();
        run.openMap(0).ok();
        run.fetch(0, 4, 0).none();
        run.takeTimes(0, 4);
        run.fetch(1, 0, 0).none();
        run.count(4, 0).due(0);
        run.tick(100).due(0);
    }

    private static void blocksEnd() {
        Run run = new Run("close: blocks", 4, 8);
        run.open(0, false, 0, 2).ok();
        run.openMap(1).ok();
        run.write(0, 0, 0, 5).ok();
        run.write(0, 5, 1, 7).ok();
        run.putMany(1, 0, 5);
        run.count(1, 0).due(2);
        run.close(0).ok();
        run.count(1, 0).due(5);
        run.holder(1, 7).refused();
        run.get(0, 0).none();
        run.close(1).ok();
        run.count(1, 0).due(8);
        run.get(1, 0).none();
    }

    private static void filterFramesAndDraftEnd() {
        Run run = new Run("close: filter, frames, draft", 4, 8);
        run.openMap(0).ok();
        run.openMap(1).ok();
        run.openMap(2).ok();
        run.installFirstByte(0, 9);
        run.installAcceptAll(1);
        run.installAcceptAll(2);
        run.arrive(9).due(0);
        run.op(0, 10, 1).due(0);
        run.close(0).ok();
        run.count(7, 0).due(0);
        run.count(7, 1).due(1);
        run.count(7, 2).due(2);
        run.count(5, 0).due(0);
        run.arrive(9).due(1);
        run.close(1).ok();
        run.arrive(9).due(2);
        run.openMap(0).ok();
        run.install(0).ok();
        run.count(7, 0).due(0);
        run.next(0).refused();
    }

    private static void listStays() {
        Run run = new Run("close: the list stays", 8, 4);
        run.openMap(3).ok();
        run.takeTimes(3, 4);
        run.revoke(3, 2, 1).due(2);
        run.tick(1).due(2);
        run.close(3).ok();
        run.holder(5, 0).due(3);
        run.holder(5, 1).due(2);
        for (int app = 0; app < 3; app++) {
            run.openMap(app).ok();
        }
        run.openMap(4).ok();
        run.openMap(3).full();
        run.holder(5, 1).due(2);
        run.close(4).ok();
        run.openMap(3).ok();
        run.holder(5, 0).refused();
    }
}
