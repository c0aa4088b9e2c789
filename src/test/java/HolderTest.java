/** Promise 20: holder. */
final class HolderTest {
    public static void main(String[] args) {
        wrongNumbers();
        owners();
        listsOfPagesTakenAway();
        Run.end();
    }

    private static void wrongNumbers() {
        Run run = new Run("holder: wrong numbers", 5, 6);
        for (int app = 0; app < 6; app++) {
            run.openMap(app).ok();
        }
        run.takeTimes(0, 5);
        run.holder(-1, 0).refused();
        run.holder(8, 0).refused();
        run.holder(Integer.MIN_VALUE, 0).refused();
        run.holder(Integer.MAX_VALUE, 0).refused();
        run.holder(0, -1).refused();
        run.holder(0, 5).refused();
        run.holder(1, -1).refused();
        run.holder(1, 6).refused();
        run.holder(0, Integer.MAX_VALUE).refused();
        run.holder(1, Integer.MIN_VALUE).refused();
        for (int kind = 2; kind <= 7; kind++) {
            run.holder(kind, -1).refused();
            run.holder(kind, 0).refused();
            run.holder(kind, 7).refused();
            run.holder(kind, 8).refused();
            run.holder(kind, Integer.MIN_VALUE).refused();
            run.holder(kind, Integer.MAX_VALUE).refused();
        }
    }

    private static void owners() {
        Run run = new Run("holder: owners", 4, 6);
        run.open(5, false, 0, 1).ok();
        run.openMap(0).ok();
        run.take(5).due(0);
        run.take(0).due(1);
        run.share(5, 0, 0, 2).ok();
        run.write(5, 0, 0, 5).ok();
        run.put(0, 1, 1).ok();
        run.holder(0, 0).due(5);
        run.holder(0, 1).due(0);
        run.holder(0, 2).refused();
        run.holder(1, 0).due(5);
        run.holder(1, 1).due(0);
        run.holder(1, 2).due(0);
        run.holder(1, 3).refused();
        run.holder(1, 5).due(5);
    }

    private static void listsOfPagesTakenAway() {
        Run run = new Run("holder: lists", 32, 6);
        run.openMap(0).ok();
        run.openMap(5).ok();
        run.takeTimes(0, 12);
        run.takeTimes(5, 3);
        run.revoke(0, 8, 1).due(8);
        run.revoke(0, 2, 2).due(2);
        run.revoke(5, 1, 1).due(1);
        run.release(0, 5).ok();
        run.tick(1).due(8);
        run.holder(7, 0).due(14);
        run.holder(7, 1).refused();
        int[] first = {11, 10, 9, 8, 7, 6, 4};
        for (int number = 0; number < 7; number++) {
            run.holder(2, number).due(first[number]);
        }
        run.holder(2, 7).refused();
        run.tick(1).due(2);
        int[] second = {3, 2, 11, 10, 9, 8, 7, 6};
        for (int number = 0; number < 8; number++) {
            run.holder(2, number).due(second[number]);
        }
        run.holder(2, 8).refused();
        run.close(0).ok();
        run.holder(2, 7).due(6);
        run.openMap(0).ok();
        run.holder(2, 0).refused();
        run.holder(7, 0).due(14);
    }
}
