/** Promise 9: revoke. */
final class RevokeTest {
    public static void main(String[] args) {
        wrongNumbers();
        lastTakenFirst();
        lastTakenIsNotGreatest();
        twoStayUnnamed();
        namedOnesAreNotCounted();
        deadlineEdges();
        others();
        Run.end();
    }

    private static void wrongNumbers() {
        Run run = new Run("revoke: wrong numbers", 12, 4);
        run.revoke(0, 1, 1).refused();
        run.openMap(0).ok();
        run.takeTimes(0, 12);
        run.revoke(-1, 1, 1).refused();
        run.revoke(6, 1, 1).refused();
        run.revoke(1, 1, 1).refused();
        run.revoke(0, 0, 1).refused();
        run.revoke(0, -1, 1).refused();
        run.revoke(0, 9, 1).refused();
        run.revoke(0, 1, 0).refused();
        run.revoke(0, 1, 21).refused();
        run.revoke(0, Integer.MAX_VALUE, 1).refused();
        run.revoke(0, 1, Integer.MIN_VALUE).refused();
        run.count(4, 0).due(0);
        run.revoke(0, 8, 20).due(8);
        run.revoke(0, 1, 1).due(1);
        run.count(4, 0).due(9);
    }

    private static void lastTakenFirst() {
        Run run = new Run("revoke: last taken first", 8, 4);
        run.openMap(0).ok();
        run.takeTimes(0, 5);
        run.revoke(0, 1, 1).due(1);
        run.tick(1).due(1);
        run.holder(2, 0).due(4);
        run.revoke(0, 1, 1).due(1);
        run.tick(1).due(1);
        run.holder(2, 0).due(3);
    }

    private static void lastTakenIsNotGreatest() {
        Run run = new Run("revoke: last taken is not the greatest", 8, 4);
        run.openMap(0).ok();
        run.takeTimes(0, 5);
        run.release(0, 1).ok();
        run.release(0, 0).ok();
        run.take(0).due(0);
        run.take(0).due(1);
        run.revoke(0, 1, 1).due(1);
        run.tick(1).due(1);
        run.holder(2, 0).due(1);
        run.revoke(0, 2, 1).due(2);
        run.count(4, 0).due(2);
        run.tick(1).due(2);
        run.holder(2, 0).due(4);
        run.holder(2, 1).due(0);
        run.count(3, 0).due(2);
    }

    private static void twoStayUnnamed() {
        Run run = new Run("revoke: two stay unnamed", 8, 4);
        run.openMap(0).ok();
        run.revoke(0, 1, 1).due(0);
        run.takeTimes(0, 2);
        run.revoke(0, 8, 1).due(0);
        run.take(0).due(2);
        run.revoke(0, 8, 1).due(1);
        run.revoke(0, 8, 1).due(0);
        run.take(0).due(3);
        run.take(0).due(4);
        run.revoke(0, 8, 1).due(2);
        run.count(4, 0).due(3);
        run.count(3, 0).due(5);
    }

    private static void namedOnesAreNotCounted() {
        Run run = new Run("revoke: named again", 8, 4);
        run.openMap(0).ok();
        run.takeTimes(0, 4);
        run.revoke(0, 1, 9).due(1);
        run.revoke(0, 2, 3).due(1);
        run.tick(3).due(1);
        run.holder(2, 0).due(2);
        run.tick(5).due(0);
        run.tick(1).due(1);
        run.holder(2, 0).due(3);
    }

    private static void deadlineEdges() {
        Run run = new Run("revoke: deadlines", 8, 4);
        run.openMap(0).ok();
        run.takeTimes(0, 4);
        run.tick(100).due(0);
        run.revoke(0, 1, 20).due(1);
        run.tick(19).due(0);
        run.revoke(0, 1, 1).due(1);
        run.count(4, 0).due(2);
        run.tick(1).due(2);
        run.holder(2, 0).due(3);
        run.holder(2, 1).due(2);
    }

    private static void others() {
        Run run = new Run("revoke: others' pages", 8, 4);
        run.openMap(0).ok();
        run.openMap(1).ok();
        run.takeTimes(0, 2);
        run.takeTimes(1, 3);
        run.share(1, 2, 0, 2).ok();
        run.revoke(0, 8, 1).due(0);
        run.revoke(1, 8, 1).due(1);
        run.count(4, 1).due(1);
        run.count(4, 0).due(0);
        run.tick(1).due(1);
        run.holder(3, 0).due(4);
    }
}
