/** Promise 10: tick. */
final class TickTest {
    public static void main(String[] args) {
        wrongNumbers();
        orderOfDeadlines();
        equalDeadlines();
        ordersAcrossApps();
        pageIsFree();
        lastEightAreKept();
        Run.end();
    }

    private static void wrongNumbers() {
        Run run = new Run("tick: wrong numbers", 4, 4);
        run.openMap(0).ok();
        run.takeTimes(0, 3);
        run.revoke(0, 1, 1).due(1);
        run.tick(0).refused();
        run.tick(-1).refused();
        run.tick(101).refused();
        run.tick(Integer.MAX_VALUE).refused();
        run.tick(Integer.MIN_VALUE).refused();
        run.count(4, 0).due(1);
        run.tick(1).due(1);
        run.tick(100).due(0);
    }

    private static void orderOfDeadlines() {
        Run run = new Run("tick: order of deadlines", 8, 4);
        run.openMap(0).ok();
        run.takeTimes(0, 6);
        run.revoke(0, 1, 7).due(1);
        run.revoke(0, 1, 3).due(1);
        run.revoke(0, 1, 9).due(1);
        run.revoke(0, 1, 5).due(1);
        run.tick(8).due(3);
        run.holder(2, 2).due(4);
        run.holder(2, 1).due(2);
        run.holder(2, 0).due(5);
        run.holder(0, 3).due(0);
        run.tick(1).due(1);
        run.holder(2, 0).due(3);
    }

    private static void equalDeadlines() {
        Run run = new Run("tick: equal deadlines", 8, 4);
        run.openMap(0).ok();
        run.takeTimes(0, 6);
        run.revoke(0, 2, 4).due(2);
        run.tick(2).due(0);
        run.revoke(0, 2, 2).due(2);
        run.tick(100).due(4);
        run.holder(2, 3).due(2);
        run.holder(2, 2).due(3);
        run.holder(2, 1).due(4);
        run.holder(2, 0).due(5);
        run.holder(2, 4).refused();
    }

    private static void ordersAcrossApps() {
        Run run = new Run("tick: two apps", 8, 4);
        run.openMap(0).ok();
        run.openMap(5).ok();
        for (int i = 0; i < 4; i++) {
            run.take(0).due(2 * i);
            run.take(5).due(2 * i + 1);
        }
        run.revoke(0, 2, 2).due(2);
        run.revoke(5, 2, 1).due(2);
        run.tick(2).due(4);
        run.holder(2, 0).due(6);
        run.holder(2, 1).due(4);
        run.holder(7, 0).due(7);
        run.holder(7, 1).due(5);
        run.count(0, 0).due(4);
    }

    private static void pageIsFree() {
        Run run = new Run("tick: the page is free", 4, 4);
        run.openMap(0).ok();
        run.openMap(1).ok();
        run.takeTimes(0, 3);
        run.share(0, 2, 1, 2).ok();
        run.store(0, 2, 1, 9).ok();
        run.revoke(0, 1, 1).due(1);
        run.tick(1).due(1);
        run.holder(0, 2).refused();
        run.count(3, 0).due(2);
        run.count(4, 0).due(0);
        run.fetch(0, 2, 1).none();
        run.fetch(1, 2, 1).none();
        run.take(0).due(2);
        run.fetch(0, 2, 1).due(0);
        run.fetch(1, 2, 1).none();
        run.tick(100).due(0);
    }

    private static void lastEightAreKept() {
        Run run = new Run("tick: the last eight", 32, 4);
        run.openMap(4).ok();
        run.takeTimes(4, 20);
        run.revoke(4, 7, 1).due(7);
        run.tick(1).due(7);
        run.holder(6, 6).due(13);
        run.holder(6, 7).refused();
        run.revoke(4, 3, 1).due(3);
        run.tick(1).due(3);
        run.holder(6, 0).due(12);
        run.holder(6, 1).due(11);
        run.holder(6, 2).due(10);
        run.holder(6, 3).due(19);
        run.holder(6, 7).due(15);
        run.holder(6, 8).refused();
    }
}
