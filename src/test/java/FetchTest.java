/** Promise 8: fetch. */
final class FetchTest {
    public static void main(String[] args) {
        wrongNumbers();
        ordinary();
        needsARight();
        Run.end();
    }

    private static void wrongNumbers() {
        Run run = new Run("fetch: wrong numbers", 4, 4);
        run.fetch(0, 0, 0).none();
        run.openMap(0).ok();
        run.takeTimes(0, 4);
        run.fetch(-1, 0, 0).none();
        run.fetch(6, 0, 0).none();
        run.fetch(1, 0, 0).none();
        run.fetch(0, -1, 0).none();
        run.fetch(0, 4, 0).none();
        run.fetch(0, 0, -1).none();
        run.fetch(0, 0, 4).none();
        run.fetch(0, 1, -1).none();
        run.fetch(0, Integer.MIN_VALUE, 0).none();
        run.fetch(0, 0, Integer.MAX_VALUE).none();
    }

    private static void ordinary() {
        Run run = new Run("fetch: ordinary", 4, 4);
        run.openMap(0).ok();
        run.takeTimes(0, 4);
        for (int page = 0; page < 4; page++) {
            for (int word = 0; word < 4; word++) {
                run.store(0, page, word, 10 * page + word).ok();
            }
        }
        for (int page = 0; page < 4; page++) {
            for (int word = 0; word < 4; word++) {
                run.fetch(0, page, word).due(10 * page + word);
            }
        }
    }

    private static void needsARight() {
        Run run = new Run("fetch: needs a right", 4, 4);
        run.openMap(0).ok();
        run.openMap(1).ok();
        run.openMap(2).ok();
        run.openMap(3).ok();
        run.fetch(0, 0, 0).none();
        run.take(0).due(0);
        run.store(0, 0, 2, -7).ok();
        run.share(0, 0, 1, 1).ok();
        run.share(0, 0, 2, 2).ok();
        run.fetch(0, 0, 2).due(-7);
        run.fetch(1, 0, 2).due(-7);
        run.fetch(2, 0, 2).due(-7);
        run.fetch(3, 0, 2).none();
        run.release(0, 0).ok();
        for (int app = 0; app < 4; app++) {
            run.fetch(app, 0, 2).none();
        }
    }
}
