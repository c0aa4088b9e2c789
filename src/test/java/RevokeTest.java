/** Promise 9: revoke. */
final class RevokeTest {
    private static final Document DOC = new Document("Promise 9: revoke");
    private static final String TIMES = "Names pages of app, n (1 .. 8) times at most,";
    private static final String DEADLINE = "with the deadline of the clock's time plus delay (1 .. 20):";
    private static final String MORE_THAN_TWO = "each time, if app owns more than 2 pages that are not NAMED,";
    private static final String TAKEN_LAST = "the one of these that it took last.";

    public static void main(String[] args) {
        timesInRange();
        onlyPagesOfApp();
        delayInRange();
        everyDelay();
        deadlineCountsFromNow();
        moreThanTwoAreNotNamed();
        namedOnesAreNotCounted();
        takenLastFirst();
        takenLastIsNotGreatest();
        takenAgainIsTakenLast();
        answersHowMany();
        DOC.end();
    }

    private static void timesInRange() {
        Run run = DOC.run(TIMES, 32, 4);
        run.revoke(0, 1, 1).refused();
        run.openMap(0).ok();
        run.takeTimes(0, 32);
        for (int app : new int[] {-1, 6, 1, Integer.MIN_VALUE, Integer.MAX_VALUE}) {
            run.revoke(app, 1, 1).refused();
        }
        for (int n : new int[] {0, -1, 9, Integer.MIN_VALUE, Integer.MAX_VALUE}) {
            run.revoke(0, n, 1).refused();
        }
        run.count(4, 0).due(0);
        int named = 0;
        for (int n = 1; n <= 6; n++) {
            run.revoke(0, n, 1).due(n);
            named += n;
            run.count(4, 0).due(named);
        }
        run.revoke(0, 8, 1).due(8);
        run.count(4, 0).due(29);
    }

    private static void onlyPagesOfApp() {
        Run run = DOC.run(TIMES, 8, 4).of("pages of others");
        run.openMaps(0, 1);
        run.takeTimes(0, 2);
        run.takeTimes(1, 3);
        run.share(1, 2, 0, 2).ok();
        run.share(1, 3, 0, 2).ok();
        run.revoke(0, 8, 1).due(0);
        run.revoke(1, 8, 1).due(1);
        run.count(4, 1).due(1);
        run.count(4, 0).due(0);
        run.tick(1).due(1);
        run.holder(3, 0).due(4);
    }

    private static void delayInRange() {
        Run run = DOC.run(DEADLINE, 8, 4).of("out of range");
        run.openMap(0).ok();
        run.takeTimes(0, 8);
        for (int delay : new int[] {0, -1, 21, Integer.MIN_VALUE, Integer.MAX_VALUE}) {
            run.revoke(0, 1, delay).refused();
        }
        run.count(4, 0).due(0);
        run.tick(100).due(0);
        run.revoke(0, 1, 1).due(1);
        run.revoke(0, 1, 20).due(1);
    }

    private static void everyDelay() {
        for (int delay = 1; delay <= 20; delay++) {
            Run run = DOC.run(DEADLINE, 8, 4).of("delay " + delay);
            run.openMap(0).ok();
            run.takeTimes(0, 3);
            run.revoke(0, 1, delay).due(1);
            for (int time = 1; time < delay; time++) {
                run.tick(1).due(0);
                run.holder(0, 2).due(0);
                run.count(4, 0).due(1);
            }
            run.tick(1).due(1);
            run.holder(0, 2).refused();
        }
    }

    private static void deadlineCountsFromNow() {
        Run run = DOC.run(DEADLINE, 8, 4).of("from the clock's time on");
        run.openMap(0).ok();
        run.takeTimes(0, 5);
        run.tick(100).due(0);
        run.revoke(0, 1, 20).due(1);
        run.tick(19).due(0);
        run.revoke(0, 1, 1).due(1);
        run.revoke(0, 1, 2).due(1);
        run.tick(1).due(2);
        run.holder(2, 0).due(4);
        run.holder(2, 1).due(3);
        run.tick(1).due(1);
        run.holder(2, 0).due(2);
    }

    private static void moreThanTwoAreNotNamed() {
        for (int pages = 0; pages <= 5; pages++) {
            for (int n = 1; n <= 8; n++) {
                Run run = DOC.run(MORE_THAN_TWO, 8, 4).of(n + " times of " + pages);
                run.openMap(0).ok();
                run.takeTimes(0, pages);
                int named = Math.min(n, Math.max(0, pages - 2));
                run.revoke(0, n, 1).due(named);
                run.count(4, 0).due(named);
                run.count(3, 0).due(pages);
            }
        }
    }

    private static void namedOnesAreNotCounted() {
        Run run = DOC.run(MORE_THAN_TWO, 8, 4).of("some are NAMED already");
        run.openMap(0).ok();
        run.takeTimes(0, 4);
        run.revoke(0, 1, 9).due(1);
        run.revoke(0, 2, 3).due(1);
        run.revoke(0, 8, 1).due(0);
        run.take(0).due(4);
        run.revoke(0, 8, 4).due(1);
        run.count(4, 0).due(3);
        run.tick(3).due(1);
        run.holder(2, 0).due(2);
        run.tick(1).due(1);
        run.holder(2, 0).due(4);
        run.revoke(0, 8, 1).due(0);
        run.tick(4).due(0);
        run.tick(1).due(1);
        run.holder(2, 0).due(3);
    }

    private static void takenLastFirst() {
        Run run = DOC.run(TAKEN_LAST, 8, 4);
        run.openMaps(0, 1);
        run.takeTimes(0, 5);
        run.takeTimes(1, 2);
        for (int page = 4; page >= 2; page--) {
            run.revoke(0, 1, 1).due(1);
            run.tick(1).due(1);
            run.holder(2, 0).due(page);
        }
    }

    private static void takenLastIsNotGreatest() {
        Run run = DOC.run(TAKEN_LAST, 8, 4).of("not the greatest");
        run.openMap(0).ok();
        run.takeTimes(0, 5);
        run.release(0, 1).ok();
        run.release(0, 0).ok();
        run.take(0).due(0);
        run.take(0).due(1);
        int[] inTurn = {1, 0, 4};
        for (int page : inTurn) {
            run.revoke(0, 1, 1).due(1);
            run.tick(1).due(1);
            run.holder(2, 0).due(page);
        }
        run.holder(0, 2).due(0);
        run.holder(0, 3).due(0);
        run.revoke(0, 1, 1).due(0);
    }

    private static void takenAgainIsTakenLast() {
        Run run = DOC.run(TAKEN_LAST, 8, 4).of("taken again");
        run.openMap(0).ok();
        run.takeTimes(0, 4);
        run.release(0, 0).ok();
        run.take(0).due(0);
        run.revoke(0, 1, 1).due(1);
        run.tick(1).due(1);
        run.holder(2, 0).due(0);
        run.take(0).due(0);
        run.count(4, 0).due(0);
        run.revoke(0, 2, 3).due(2);
        run.tick(3).due(2);
        run.holder(2, 0).due(3);
        run.holder(2, 1).due(0);
    }

    private static void answersHowMany() {
        Run run = DOC.run("Answers how many were named.", 16, 4);
        run.openMap(0).ok();
        run.revoke(0, 8, 20).due(0);
        run.takeTimes(0, 13);
        run.revoke(0, 1, 20).due(1);
        run.revoke(0, 7, 20).due(7);
        run.revoke(0, 8, 20).due(3);
        run.revoke(0, 8, 20).due(0);
    }
}
