/** Promise 8: fetch. */
final class FetchTest {
    private static final Document DOC = new Document("Promise 8: fetch");
    private static final String WORD = "The word 0 .. 3 of the page.";
    private static final String NO_RIGHT = "app is not its owner and has no right to it: NONE.";

    public static void main(String[] args) {
        numbersInRange();
        everyWord();
        needsARight();
        freePage();
        DOC.end();
    }

    private static void numbersInRange() {
        Run run = DOC.run(WORD, 4, 4).of("out of range");
        run.fetch(0, 0, 0).none();
        run.openMap(0).ok();
        run.takeTimes(0, 4);
        for (int page = 0; page < 4; page++) {
            for (int word = 0; word < 4; word++) {
                run.store(0, page, word, 7).ok();
            }
        }
        for (int app : new int[] {-1, 6, 1, Integer.MIN_VALUE, Integer.MAX_VALUE}) {
            run.fetch(app, 0, 0).none();
        }
        for (int number : new int[] {-1, 4, Integer.MIN_VALUE, Integer.MAX_VALUE}) {
            run.fetch(0, number, 0).none();
            run.fetch(0, number, 3).none();
            run.fetch(0, 0, number).none();
            run.fetch(0, 1, number).none();
            run.fetch(0, 3, number).none();
        }
    }

    private static void everyWord() {
        Run run = DOC.run(WORD, 32, 4);
        run.openMap(0).ok();
        run.takeTimes(0, 32);
        for (int i = 0; i < 128; i++) {
            run.store(0, i / 4, i % 4, 1000 - 13 * i).ok();
        }
        for (int i = 0; i < 128; i++) {
            run.fetch(0, i / 4, i % 4).due(1000 - 13 * i);
        }
        run.store(0, 31, 3, Integer.MIN_VALUE).ok();
        run.fetch(0, 31, 3).due(Integer.MIN_VALUE);
        run.store(0, 31, 3, Integer.MAX_VALUE).ok();
        run.fetch(0, 31, 3).due(Integer.MAX_VALUE);
    }

    private static void needsARight() {
        Run run = DOC.run(NO_RIGHT, 4, 4);
        run.openMaps(0, 3);
        run.take(0).due(0);
        run.store(0, 0, 2, -7).ok();
        run.share(0, 0, 1, 1).ok();
        run.share(0, 0, 2, 2).ok();
        run.fetch(0, 0, 2).due(-7);
        run.fetch(1, 0, 2).due(-7);
        run.fetch(2, 0, 2).due(-7);
        run.fetch(3, 0, 2).none();
        run.share(0, 0, 1, 0).ok();
        run.fetch(1, 0, 2).none();
        run.close(2).ok();
        run.fetch(2, 0, 2).none();
        run.openMap(2).ok();
        run.fetch(2, 0, 2).none();
    }

    private static void freePage() {
        Run run = DOC.run(NO_RIGHT, 4, 4).of("a FREE page");
        run.openMaps(0, 1);
        run.fetch(0, 0, 0).none();
        run.take(0).due(0);
        run.share(0, 0, 1, 1).ok();
        run.release(0, 0).ok();
        run.fetch(0, 0, 0).none();
        run.fetch(1, 0, 0).none();
    }
}
