/** Promise 16: next. */
final class NextTest {
    public static void main(String[] args) {
        wrongApps();
        oldestLeaves();
        roundAndRound();
        Run.end();
    }

    private static void wrongApps() {
        Run run = new Run("next: wrong apps", 4, 4);
        run.next(0).refused();
        run.next(-1).refused();
        run.next(6).refused();
        run.openMap(0).ok();
        run.next(0).refused();
        run.installAcceptAll(0);
        run.arrive().due(0);
        run.next(1).refused();
        run.next(0).due(0);
        run.next(0).refused();
    }

    private static void oldestLeaves() {
        Run run = new Run("next: the oldest leaves", 4, 4);
        run.openMap(0).ok();
        run.openMap(1).ok();
        run.installFirstByte(1, 9);
        run.installAcceptAll(0);
        run.arrive(1).due(0);
        run.arrive(9).due(1);
        run.arrive(2).due(0);
        run.arrive(3).due(0);
        run.next(0).due(2);
        run.got(0, 0).due(2);
        run.next(0).due(1);
        run.got(0, 0).due(3);
        run.next(0).due(0);
        run.got(0, 0).refused();
        run.count(5, 1).due(1);
    }

    private static void roundAndRound() {
        Run run = new Run("next: round and round", 4, 4);
        run.openMap(0).ok();
        run.installAcceptAll(0);
        run.arrive(0).due(0);
        run.arrive(1).due(0);
        run.arrive(2).due(0);
        for (int i = 3; i < 40; i++) {
            run.arrive(i).due(0);
            run.got(0, 0).due(i - 3);
            run.next(0).due(3);
        }
    }
}
