/** Promise 4: take. */
final class TakeTest {
    private static final Document DOC = new Document("Promise 4: take");

    public static void main(String[] args) {
        onlyAnOpenOneTakes();
        leastFreePage();
        wordsAreZero();
        answersTheNumber();
        noneIsFree();
        DOC.end();
    }

    private static void onlyAnOpenOneTakes() {
        Run run = DOC.run("The app becomes the owner of the least FREE page,", 4, 4).of("wrong apps");
        for (int app : new int[] {-1, 6, Integer.MIN_VALUE, Integer.MAX_VALUE, 0, 5}) {
            run.take(app).refused();
        }
        run.openMap(0).ok();
        run.take(1).refused();
        run.close(0).ok();
        run.take(0).refused();
        run.count(0, 0).due(4);
    }

    private static void leastFreePage() {
        Run run = DOC.run("The app becomes the owner of the least FREE page,", 6, 4);
        run.openMap(0).ok();
        run.openMap(5).ok();
        run.take(0);
        run.take(5);
        run.take(0);
        run.take(0);
        int[] owners = {0, 5, 0, 0, BindingKernel.REFUSED, BindingKernel.REFUSED};
        for (int page = 0; page < 6; page++) {
            run.holder(0, page).due(owners[page]);
        }
        run.release(0, 2).ok();
        run.release(5, 1).ok();
        run.release(0, 0).ok();
        run.take(5).due(0);
        run.holder(0, 0).due(5);
        run.take(0).due(1);
        run.holder(0, 1).due(0);
        run.take(5).due(2);
        run.take(5).due(4);
        run.count(0, 0).due(1);
        run.count(3, 0).due(2);
        run.count(3, 5).due(3);
    }

    private static void wordsAreZero() {
        Run run = DOC.run("whose words are all 0 then:", 4, 4);
        run.openMaps(0, 1);
        run.takeTimes(0, 2);
        for (int word = 0; word < 4; word++) {
            run.store(0, 0, word, word + 1).ok();
            run.store(0, 1, word, -1).ok();
        }
        run.release(0, 0).ok();
        run.take(1).due(0);
        for (int word = 0; word < 4; word++) {
            run.fetch(1, 0, word).due(0);
            run.fetch(0, 1, word).due(-1);
        }
        run.store(1, 0, 2, 7).ok();
        run.release(1, 0).ok();
        run.take(1).due(0);
        run.fetch(1, 0, 2).due(0);
        run.close(0).ok();
        run.take(1).due(1);
        run.fetch(1, 1, 3).due(0);
    }

    private static void answersTheNumber() {
        Run run = DOC.run("its number.", 32, 4);
        run.openMap(0).ok();
        for (int page = 0; page < 32; page++) {
            run.take(0).due(page);
        }
        run.release(0, 31).ok();
        run.release(0, 17).ok();
        run.take(0).due(17);
        run.take(0).due(31);
    }

    private static void noneIsFree() {
        Run run = DOC.run("None is FREE: FULL.", 4, 4);
        run.openMaps(0, 1);
        run.takeTimes(0, 3);
        run.take(1).due(3);
        run.take(0).full();
        run.take(1).full();
        run.count(3, 0).due(3);
        run.count(3, 1).due(1);
        run.release(1, 3).ok();
        run.take(0).due(3);
        run.take(0).full();
    }
}
