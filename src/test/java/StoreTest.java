/** Promise 7: store. */
final class StoreTest {
    private static final Document DOC = new Document("Promise 7: store");
    private static final String SETS = "Sets word 0 .. 3 of the page.";
    private static final String REFUSAL = "app is not its owner and has not the right 2: REFUSED.";
    private static final int LEAST = Integer.MIN_VALUE;
    private static final int GREATEST = Integer.MAX_VALUE;

    public static void main(String[] args) {
        numbersInRange();
        eachWordAlone();
        anyValue();
        needsTheRightToWrite();
        rightThatEnded();
        answersOk();
        DOC.end();
    }

    private static void numbersInRange() {
        Run run = DOC.run(SETS, 4, 4).of("out of range");
        run.store(0, 0, 0, 1).refused();
        run.openMap(0).ok();
        run.takeTimes(0, 4);
        for (int app : new int[] {-1, 6, 1, LEAST, GREATEST}) {
            run.store(app, 0, 0, 1).refused();
        }
        for (int number : new int[] {-1, 4, LEAST, GREATEST}) {
            run.store(0, number, 0, 1).refused();
            run.store(0, 0, number, 1).refused();
            run.store(0, 1, number, 1).refused();
            run.store(0, 3, number, 1).refused();
        }
        for (int page = 0; page < 4; page++) {
            for (int word = 0; word < 4; word++) {
                run.fetch(0, page, word).due(0);
            }
        }
    }

    private static void eachWordAlone() {
        for (int page = 0; page < 4; page++) {
            for (int word = 0; word < 4; word++) {
                Run run = DOC.run(SETS, 4, 4).of("word " + word + " of page " + page);
                run.openMap(0).ok();
                run.takeTimes(0, 4);
                run.store(0, page, word, 9).ok();
                for (int i = 0; i < 16; i++) {
                    run.fetch(0, i / 4, i % 4).due(i == 4 * page + word ? 9 : 0);
                }
            }
        }
    }

    private static void anyValue() {
        Run run = DOC.run(SETS, 4, 4).of("any value");
        run.openMap(0).ok();
        run.takeTimes(0, 2);
        for (int value : new int[] {LEAST, LEAST + 1, -1, 0, 1, GREATEST - 1, GREATEST}) {
            run.store(0, 1, 3, value).ok();
            run.fetch(0, 1, 3).due(value);
        }
    }

    private static void needsTheRightToWrite() {
        Run run = DOC.run(REFUSAL, 4, 4);
        run.openMaps(0, 3);
        run.store(0, 0, 0, 1).refused();
        run.take(0).due(0);
        run.share(0, 0, 1, 1).ok();
        run.share(0, 0, 2, 2).ok();
        run.store(3, 0, 0, 10).refused();
        run.store(1, 0, 0, 11).refused();
        run.fetch(0, 0, 0).due(0);
        run.store(2, 0, 0, 12).ok();
        run.fetch(0, 0, 0).due(12);
        run.store(0, 0, 0, 13).ok();
        run.fetch(2, 0, 0).due(13);
        run.store(2, 1, 0, 14).refused();
    }

    private static void rightThatEnded() {
        Run run = DOC.run(REFUSAL, 4, 4).of("when the right ended");
        run.openMaps(0, 1);
        run.takeTimes(0, 3);
        run.share(0, 2, 1, 2).ok();
        run.revoke(0, 1, 2).due(1);
        run.tick(1).due(0);
        run.store(0, 2, 0, 5).ok();
        run.store(1, 2, 1, 6).ok();
        run.tick(1).due(1);
        run.store(0, 2, 0, 5).refused();
        run.store(1, 2, 1, 6).refused();
        run.share(0, 0, 1, 2).ok();
        run.close(1).ok();
        run.store(1, 0, 0, 7).refused();
        run.openMap(1).ok();
        run.store(1, 0, 0, 7).refused();
        run.share(0, 0, 1, 2).ok();
        run.share(0, 0, 1, 1).ok();
        run.store(1, 0, 0, 7).refused();
        run.fetch(0, 0, 0).due(0);
    }

    private static void answersOk() {
        Run run = DOC.run("Else OK.", 4, 4);
        run.openMaps(0, 1);
        run.takeTimes(0, 4);
        for (int page = 0; page < 4; page++) {
            run.share(0, page, 1, 2).ok();
            for (int word = 0; word < 4; word++) {
                run.store(0, page, word, -3).ok();
                run.store(1, page, word, -3).ok();
            }
        }
    }
}
