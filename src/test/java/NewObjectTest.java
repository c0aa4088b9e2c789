/** Promise 1: a new object. */
final class NewObjectTest {
    public static void main(String[] args) {
        sizesAreKept();
        sizesAreClamped(Integer.MIN_VALUE, 4);
        sizesAreClamped(-1, 4);
        sizesAreClamped(3, 4);
        sizesAreClamped(4, 4);
        sizesAreClamped(32, 32);
        sizesAreClamped(33, 32);
        sizesAreClamped(Integer.MAX_VALUE, 32);
        allIsFree();
        objectsAreApart();
        Run.end();
    }

    private static void sizesAreKept() {
        Run run = new Run("sizes are kept", 5, 9);
        run.count(0, 0).due(5);
        run.count(1, 0).due(9);
        run.openMap(0).ok();
        run.release(0, 4).refused();
        for (int page = 0; page < 5; page++) {
            run.take(0).due(page);
        }
        run.take(0).full();
    }

    private static void sizesAreClamped(int given, int size) {
        Run pages = new Run("pages are clamped", given, 7);
        pages.count(0, 0).due(size);
        pages.count(1, 0).due(7);
        Run blocks = new Run("blocks are clamped", 7, given);
        blocks.count(0, 0).due(7);
        blocks.count(1, 0).due(size);
    }

    private static void allIsFree() {
        Run run = new Run("all is free", 32, 32);
        for (int number = 0; number < 32; number++) {
            run.holder(0, number).refused();
            run.holder(1, number).refused();
        }
        run.count(2, 0).due(0);
        for (int app = 0; app < 6; app++) {
            for (int what = 3; what <= 8; what++) {
                run.count(what, app).due(0);
            }
            run.holder(2 + app, 0).refused();
            run.take(app).refused();
        }
        run.arrive().refused();
    }

    private static void objectsAreApart() {
        Run one = new Run("one of two", 4, 4);
        Run other = new Run("other of two", 4, 4);
        one.openMap(0).ok();
        one.take(0).due(0);
        one.push(1).due(1);
        other.count(0, 0).due(4);
        other.count(1, 0).due(4);
        other.push(1).due(1);
        other.take(0).refused();
    }
}
