/** Promise 4: take. */
final class TakeTest {
    public static void main(String[] args) {
        wrongApps();
        leastFreePage();
        wordsAreZero();
        noneIsFree();
        Run.end();
    }

    private static void wrongApps() {
        Run run = new Run("take: wrong apps", 4, 4);
        run.take(-1).refused();
        run.take(6).refused();
        run.take(0).refused();
        run.count(0, 0).due(4);
    }

    private static void leastFreePage() {
        Run run = new Run("take: least free page", 6, 4);
        run.openMap(0).ok();
        run.openMap(5).ok();
        run.take(0).due(0);
        run.take(5).due(1);
        run.take(0).due(2);
        run.take(0).due(3);
        run.holder(0, 1).due(5);
        run.holder(0, 3).due(0);
        run.release(0, 2).ok();
        run.release(5, 1).ok();
        run.take(0).due(1);
        run.holder(0, 1).due(0);
        run.take(5).due(2);
        run.take(5).due(4);
        run.count(0, 0).due(1);
        run.count(3, 0).due(3);
    }

    private static void wordsAreZero() {
        Run run = new Run("take: words are zero", 4, 4);
        run.openMap(0).ok();
        run.openMap(1).ok();
        run.take(0).due(0);
        for (int word = 0; word < 4; word++) {
            run.store(0, 0, word, word + 1).ok();
        }
        run.release(0, 0).ok();
        run.take(1).due(0);
        for (int word = 0; word < 4; word++) {
            run.fetch(1, 0, word).due(0);
        }
    }

    private static void noneIsFree() {
        Run run = new Run("take: none is free", 4, 4);
        run.openMap(0).ok();
        run.openMap(1).ok();
        run.takeTimes(0, 4);
        run.take(0).full();
        run.take(1).full();
        run.take(2).refused();
        run.release(0, 3).ok();
        run.take(1).due(3);
    }
}
