/** Promise 7: store. */
final class StoreTest {
    public static void main(String[] args) {
        wrongNumbers();
        anyValue();
        needsTheRightToWrite();
        namedPageStaysUsable();
        Run.end();
    }

    private static void wrongNumbers() {
        Run run = new Run("store: wrong numbers", 4, 4);
        run.store(0, 0, 0, 1).refused();
        run.openMap(0).ok();
        run.takeTimes(0, 4);
        run.store(-1, 0, 0, 1).refused();
        run.store(6, 0, 0, 1).refused();
        run.store(0, -1, 0, 1).refused();
        run.store(0, 4, 0, 1).refused();
        run.store(0, 0, -1, 1).refused();
        run.store(0, 0, 4, 1).refused();
        run.store(0, 1, -1, 1).refused();
        run.store(0, Integer.MAX_VALUE, 0, 1).refused();
        run.store(0, 0, Integer.MIN_VALUE, 1).refused();
        for (int page = 0; page < 4; page++) {
            for (int word = 0; word < 4; word++) {
                run.fetch(0, page, word).due(0);
            }
        }
    }

    private static void anyValue() {
        Run run = new Run("store: any value", 4, 4);
        run.openMap(0).ok();
        run.takeTimes(0, 2);
        run.store(0, 0, 3, Integer.MIN_VALUE).ok();
        run.store(0, 1, 0, Integer.MAX_VALUE).ok();
        run.store(0, 0, 0, -1).ok();
        run.fetch(0, 0, 3).due(Integer.MIN_VALUE);
        run.fetch(0, 1, 0).due(Integer.MAX_VALUE);
        run.fetch(0, 0, 0).due(-1);
        run.fetch(0, 0, 1).due(0);
        run.store(0, 0, 0, 8).ok();
        run.fetch(0, 0, 0).due(8);
    }

    private static void needsTheRightToWrite() {
        Run run = new Run("store: needs the right", 4, 4);
        run.openMap(0).ok();
        run.openMap(1).ok();
        run.openMap(2).ok();
        run.store(0, 0, 0, 1).refused();
        run.take(0).due(0);
        run.share(0, 0, 1, 1).ok();
        run.share(0, 0, 2, 2).ok();
        run.store(1, 0, 0, 11).refused();
        run.fetch(0, 0, 0).due(0);
        run.store(2, 0, 0, 12).ok();
        run.fetch(1, 0, 0).due(12);
        run.close(2).ok();
        run.store(2, 0, 0, 13).refused();
        run.openMap(2).ok();
        run.store(2, 0, 0, 13).refused();
    }

    private static void namedPageStaysUsable() {
        Run run = new Run("store: a named page", 4, 4);
        run.openMap(0).ok();
        run.openMap(1).ok();
        run.takeTimes(0, 3);
        run.share(0, 2, 1, 2).ok();
        run.revoke(0, 1, 2).due(1);
        run.tick(1).due(0);
        run.store(0, 2, 0, 5).ok();
        run.store(1, 2, 1, 6).ok();
        run.tick(1).due(1);
        run.store(0, 2, 0, 5).refused();
        run.store(1, 2, 1, 6).refused();
    }
}
