/** Promise 20: holder. */
final class HolderTest {
    private static final Document DOC = new Document("Promise 20: holder");
    private static final String LIST = "2 .. 7: of application kind - 2, the page taken away from it"
        + " number places before the last one,";
    private static final String OUT_OF_RANGE = "or a number is out of range.";
    private static final int LEAST = Integer.MIN_VALUE;
    private static final int GREATEST = Integer.MAX_VALUE;

    public static void main(String[] args) {
        ownersOfPages();
        ownersOfBlocks();
        lists();
        lastEightAreKept();
        numbersOfLists();
        listOfAClosedOne();
        thereIsNone();
        kindsOutOfRange();
        numbersOutOfRange();
        DOC.end();
    }

    private static void ownersOfPages() {
        Run run = DOC.run("kind 0: the owner of page number;", 8, 6);
        run.openMaps(0, 5);
        int[] owners = {5, 0, 3, 3, 1, 2, 4, 0};
        for (int page = 0; page < 8; page++) {
            run.take(owners[page]).due(page);
        }
        run.share(5, 0, 0, 2).ok();
        for (int page = 0; page < 8; page++) {
            run.holder(0, page).due(owners[page]);
        }
        run.release(3, 2).ok();
        run.holder(0, 2).refused();
        run.take(4).due(2);
        run.holder(0, 2).due(4);
    }

    private static void ownersOfBlocks() {
        Run run = DOC.run("1: the application to which block number belongs;", 4, 9);
        run.openRaw(5, 0, 1).ok();
        run.openMap(0).ok();
        run.openMap(3).ok();
        run.write(5, 0, 0, 8).ok();
        run.write(5, 8, 0, 6).ok();
        run.put(0, 1, 1).ok();
        run.putMany(3, 0, 5);
        int[] owners = {5, 0, 3, 0, 3, 3, 5, -1, 5};
        for (int block = 0; block < 9; block++) {
            run.holder(1, block).due(owners[block]);
        }
    }

    private static void lists() {
        for (int app = 0; app < 6; app++) {
            Run run = DOC.run(LIST, 32, 6).of("application " + app);
            run.openMaps(0, 5);
            run.takeTimes(app, 10);
            int[] inTurn = {9, 8, 7, 6, 5};
            for (int i = 0; i < 5; i++) {
                run.revoke(app, 1, 1).due(1);
                run.tick(1).due(1);
            }
            for (int number = 0; number < 8; number++) {
                run.holder(2 + app, number).due(number < 5 ? inTurn[4 - number] : BindingKernel.REFUSED);
            }
            for (int kind = 2; kind < 8; kind++) {
                if (kind != 2 + app) {
                    run.holder(kind, 0).refused();
                }
            }
        }
    }

    private static void lastEightAreKept() {
        for (int taken = 7; taken <= 17; taken++) {
            Run run = DOC.run("the last 8 being kept", 32, 4).of(taken + " taken away");
            run.openMap(4).ok();
            run.takeTimes(4, 32);
            for (int i = 0; i < taken; i++) {
                run.revoke(4, 1, 1).due(1);
                run.tick(1).due(1);
            }
            int last = 32 - taken;
            for (int number = 0; number < 8; number++) {
                run.holder(6, number).due(number < taken ? last + number : BindingKernel.REFUSED);
            }
            run.holder(6, 8).refused();
        }
        Run atOnce = DOC.run("the last 8 being kept", 32, 4).of("ten taken away at once");
        atOnce.openMap(4).ok();
        atOnce.takeTimes(4, 12);
        atOnce.revoke(4, 8, 1).due(8);
        atOnce.revoke(4, 2, 1).due(2);
        atOnce.tick(1).due(10);
        for (int number = 0; number < 8; number++) {
            atOnce.holder(6, number).due(11 - number);
        }
        atOnce.holder(6, 8).refused();
        atOnce.holder(6, 9).refused();
    }

    private static void numbersOfLists() {
        Run run = DOC.run("(number 0 .. 7;", 32, 6);
        run.openMaps(0, 5);
        run.takeTimes(2, 20);
        run.revoke(2, 8, 1).due(8);
        run.revoke(2, 8, 1).due(8);
        run.tick(1).due(16);
        run.holder(4, 0).due(19);
        run.holder(4, 7).due(12);
        for (int number : new int[] {-1, -8, 8, 9, 15, 16, LEAST, GREATEST}) {
            for (int kind = 2; kind < 8; kind++) {
                run.holder(kind, number).refused();
            }
        }
    }

    private static void listOfAClosedOne() {
        Run run = DOC.run("the list of a closed application stays until it is opened again).", 8, 4);
        run.openMaps(0, 1);
        run.takeTimes(0, 4);
        run.takeTimes(1, 3);
        run.revoke(0, 2, 1).due(2);
        run.revoke(1, 1, 1).due(1);
        run.tick(1).due(3);
        run.close(0).ok();
        run.holder(2, 0).due(3);
        run.holder(2, 1).due(2);
        run.holder(2, 2).refused();
        run.openMap(2).ok();
        run.close(1).ok();
        run.openRaw(0, 8, 0).refused();
        run.holder(2, 1).due(2);
        run.openRaw(0, 0, 0).ok();
        run.holder(2, 0).refused();
        run.holder(3, 0).due(6);
        run.close(0).ok();
        run.holder(2, 0).refused();
        run.openMap(1).ok();
        run.holder(3, 0).refused();
    }

    private static void thereIsNone() {
        Run run = DOC.run("REFUSED if there is none", 5, 6);
        for (int page = 0; page < 5; page++) {
            run.holder(0, page).refused();
        }
        for (int block = 0; block < 6; block++) {
            run.holder(1, block).refused();
        }
        for (int kind = 2; kind < 8; kind++) {
            for (int number = 0; number < 8; number++) {
                run.holder(kind, number).refused();
            }
        }
        run.openMap(0).ok();
        run.take(0).due(0);
        run.holder(0, 1).refused();
        run.holder(1, 1).refused();
        run.release(0, 0).ok();
        run.holder(0, 0).refused();
        run.holder(2, 0).refused();
        run.close(0).ok();
        run.holder(1, 0).refused();
    }

    private static void kindsOutOfRange() {
        Run run = DOC.run(OUT_OF_RANGE, 8, 6).of("kinds");
        run.openMaps(0, 5);
        run.takeTimes(0, 4);
        run.takeTimes(5, 4);
        run.revoke(0, 2, 1).due(2);
        run.revoke(5, 2, 1).due(2);
        run.tick(1).due(4);
        for (int kind : new int[] {-1, -2, 8, 9, LEAST, GREATEST}) {
            for (int number = 0; number < 8; number++) {
                run.holder(kind, number).refused();
            }
        }
    }

    private static void numbersOutOfRange() {
        for (int size : new int[] {4, 6, 32}) {
            Run run = DOC.run(OUT_OF_RANGE, size, size).of("pages and blocks of " + size);
            run.openRaw(0, 0, 8).ok();
            run.takeTimes(0, size);
            run.write(0, 0, 0, size - 1).ok();
            run.holder(0, size - 1).due(0);
            run.holder(1, size - 1).due(0);
            for (int number : new int[] {-1, size, size + 1, 33, LEAST, GREATEST}) {
                run.holder(0, number).refused();
                run.holder(1, number).refused();
            }
        }
    }
}
