/** Promise 10: tick. */
final class TickTest {
    private static final Document DOC = new Document("Promise 10: tick");
    private static final String NOT_AFTER = "Then each NAMED page whose deadline is not after the clock's time"
        + " is taken from its owner,";
    private static final String LIST = "and comes to the end of the owner's list of pages taken away.";

    public static void main(String[] args) {
        timeInRange();
        timeAddsUp();
        deadlineNotAfterTheTime();
        onlyNamedPages();
        orderOfDeadlines();
        leastPageFirst();
        pageIsFree();
        endOfTheList();
        listOfEachOwner();
        answersHowMany();
        DOC.end();
    }

    private static void timeInRange() {
        Run run = DOC.run("The clock goes on by n, 1 .. 100.", 4, 4);
        run.openMap(0).ok();
        run.takeTimes(0, 3);
        run.revoke(0, 1, 1).due(1);
        for (int n : new int[] {0, -1, 101, Integer.MIN_VALUE, Integer.MAX_VALUE}) {
            run.tick(n).refused();
        }
        run.count(4, 0).due(1);
        run.tick(1).due(1);
        run.tick(100).due(0);
    }

    private static void timeAddsUp() {
        for (int n = 1; n <= 100; n++) {
            Run run = DOC.run("The clock goes on by n, 1 .. 100.", 4, 4).of("by " + n);
            run.openMap(0).ok();
            run.takeTimes(0, 3);
            run.revoke(0, 1, 20).due(1);
            run.tick(n).due(n >= 20 ? 1 : 0);
            if (n < 19) {
                run.tick(19 - n).due(0);
            }
            if (n < 20) {
                run.tick(1).due(1);
            }
        }
    }

    private static void deadlineNotAfterTheTime() {
        Run run = DOC.run(NOT_AFTER, 8, 4);
        run.openMap(0).ok();
        run.takeTimes(0, 6);
        for (int delay = 4; delay <= 7; delay++) {
            run.revoke(0, 1, delay).due(1);
        }
        run.tick(3).due(0);
        run.tick(2).due(2);
        run.holder(0, 5).refused();
        run.holder(0, 4).refused();
        run.holder(0, 3).due(0);
        run.tick(1).due(1);
        run.tick(1).due(1);
        run.tick(100).due(0);
        run.count(3, 0).due(2);
    }

    private static void onlyNamedPages() {
        Run run = DOC.run(NOT_AFTER, 8, 4).of("NAMED ones alone");
        run.openMaps(0, 1);
        run.tick(100).due(0);
        run.takeTimes(0, 5);
        run.takeTimes(1, 3);
        run.tick(100).due(0);
        run.revoke(0, 2, 3).due(2);
        run.release(0, 4).ok();
        run.take(1).due(4);
        run.tick(100).due(1);
        for (int page = 0; page < 8; page++) {
            run.holder(0, page).due(page == 3 ? BindingKernel.REFUSED : page < 3 ? 0 : 1);
        }
        run.count(3, 0).due(3);
        run.count(3, 1).due(4);
    }

    private static void orderOfDeadlines() {
        Run run = DOC.run("in the order of deadlines,", 8, 4);
        run.openMap(0).ok();
        run.takeTimes(0, 6);
        run.revoke(0, 1, 7).due(1);
        run.revoke(0, 1, 3).due(1);
        run.revoke(0, 1, 9).due(1);
        run.revoke(0, 1, 5).due(1);
        run.tick(8).due(3);
        run.holder(2, 2).due(4);
        run.holder(2, 1).due(2);
        run.holder(2, 0).due(5);
        run.holder(0, 3).due(0);
        run.tick(1).due(1);
        run.holder(2, 0).due(3);
    }

    private static void leastPageFirst() {
        Run run = DOC.run("of equal ones the least page first:", 8, 4);
        run.openMap(0).ok();
        run.takeTimes(0, 6);
        run.revoke(0, 2, 4).due(2);
        run.tick(2).due(0);
        run.revoke(0, 2, 2).due(2);
        run.tick(100).due(4);
        for (int number = 0; number < 4; number++) {
            run.holder(2, number).due(5 - number);
        }
        run.holder(2, 4).refused();
    }

    private static void pageIsFree() {
        Run run = DOC.run("it is FREE", 4, 4);
        run.openMaps(0, 1);
        run.takeTimes(0, 3);
        run.share(0, 2, 1, 2).ok();
        run.store(0, 2, 1, 9).ok();
        run.revoke(0, 1, 1).due(1);
        run.tick(1).due(1);
        run.holder(0, 2).refused();
        run.count(0, 0).due(2);
        run.count(3, 0).due(2);
        run.count(4, 0).due(0);
        run.fetch(0, 2, 1).none();
        run.fetch(1, 2, 1).none();
        run.release(0, 2).refused();
        run.take(0).due(2);
        run.fetch(0, 2, 1).due(0);
        run.fetch(1, 2, 1).none();
        run.count(4, 0).due(0);
        run.tick(100).due(0);
    }

    private static void endOfTheList() {
        Run run = DOC.run(LIST, 8, 4);
        run.openMap(4).ok();
        run.takeTimes(4, 5);
        int[] inTurn = {4, 3, 2};
        for (int i = 0; i < 3; i++) {
            run.revoke(4, 1, 1).due(1);
            run.tick(1).due(1);
            for (int number = 0; number < 8; number++) {
                run.holder(6, number).due(number <= i ? inTurn[i - number] : BindingKernel.REFUSED);
            }
        }
        run.takeTimes(4, 1);
        run.revoke(4, 1, 1).due(1);
        run.tick(1).due(1);
        run.holder(6, 0).due(2);
        run.holder(6, 1).due(2);
        run.holder(6, 3).due(4);
    }

    private static void listOfEachOwner() {
        Run run = DOC.run(LIST, 8, 4).of("of each owner");
        run.openMap(0).ok();
        run.openMap(5).ok();
        for (int i = 0; i < 4; i++) {
            run.take(0).due(2 * i);
            run.take(5).due(2 * i + 1);
        }
        run.share(0, 6, 5, 2).ok();
        run.revoke(0, 2, 2).due(2);
        run.revoke(5, 2, 1).due(2);
        run.tick(2).due(4);
        run.holder(2, 0).due(6);
        run.holder(2, 1).due(4);
        run.holder(2, 2).refused();
        run.holder(7, 0).due(7);
        run.holder(7, 1).due(5);
        run.holder(7, 2).refused();
        run.count(0, 0).due(4);
    }

    private static void answersHowMany() {
        Run run = DOC.run("Answers how many.", 32, 4);
        run.tick(1).due(0);
        run.openMaps(0, 1);
        run.takeTimes(0, 20);
        run.takeTimes(1, 12);
        run.tick(1).due(0);
        run.revoke(0, 8, 1).due(8);
        run.revoke(0, 8, 2).due(8);
        run.revoke(1, 8, 1).due(8);
        run.tick(1).due(16);
        run.tick(1).due(8);
        run.tick(1).due(0);
    }
}
