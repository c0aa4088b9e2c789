/** Promise 1: a new object. */
final class NewObjectTest {
    private static final Document DOC = new Document("Promise 1: A new object");
    private static final int[][] GIVEN_AND_CLAMPED = {
        {Integer.MIN_VALUE, 4}, {-1, 4}, {0, 4}, {3, 4}, {4, 4}, {5, 5}, {17, 17}, {31, 31}, {32, 32}, {33, 32},
        {Integer.MAX_VALUE, 32}
    };

    public static void main(String[] args) {
        for (int[] each : GIVEN_AND_CLAMPED) {
            pagesAreClamped(each[0], each[1]);
            blocksAreClamped(each[0], each[1]);
        }
        allIsFree();
        objectsAreApart();
        DOC.end();
    }

    private static void pagesAreClamped(int given, int size) {
        Run run = DOC.run("pages: PAGES, clamped to 4 .. 32.", given, 7).of("of " + given);
        run.count(0, 0).due(size);
        run.count(1, 0).due(7);
        run.openMap(0).ok();
        for (int page = 0; page < size; page++) {
            run.take(0).due(page);
        }
        run.take(0).full();
        run.store(0, size - 1, 3, 8).ok();
        run.fetch(0, size - 1, 3).due(8);
        run.store(0, size, 0, 8).refused();
        run.fetch(0, size, 0).none();
        run.holder(0, size).refused();
        run.release(0, size).refused();
        run.release(0, size - 1).ok();
    }

    private static void blocksAreClamped(int given, int size) {
        Run run = DOC.run("blocks: BLOCKS, clamped to 4 .. 32.", 7, given).of("of " + given);
        run.count(0, 0).due(7);
        run.count(1, 0).due(size);
        run.openRaw(0, 0, 1).ok();
        run.write(0, 0, 0, size).refused();
        run.write(0, 0, 0, size - 1).ok();
        run.write(0, size - 1, 7, 9).ok();
        run.get(0, 8 * size - 1).due(9);
        run.get(0, 8 * size).none();
        run.write(0, size, 7, 9).refused();
        run.holder(1, size - 1).due(0);
        run.holder(1, size).refused();
        run.count(1, 0).due(size - 2);
    }

    private static void allIsFree() {
        Run run = DOC.run("All FREE.", 32, 32);
        run.count(0, 0).due(32);
        run.count(1, 0).due(32);
        for (int number = 0; number < 32; number++) {
            run.holder(0, number).refused();
            run.holder(1, number).refused();
        }
        for (int app = 0; app < 6; app++) {
            for (int what = 3; what <= 8; what++) {
                run.count(what, app).due(0);
            }
        }
        run.count(2, 0).due(0);
    }

    private static void objectsAreApart() {
        Run one = DOC.run("All FREE.", 4, 4).of("one of two objects");
        Run other = DOC.run("All FREE.", 4, 4).of("the other of two objects");
        one.openMap(0).ok();
        one.take(0).due(0);
        one.installAcceptAll(0);
        one.push(1).due(1);
        other.count(0, 0).due(4);
        other.count(1, 0).due(4);
        other.push(1).due(1);
        other.arrive().refused();
        other.take(0).refused();
    }
}
