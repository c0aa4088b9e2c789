/** What each instruction of a filter does: the Terms, as promise 14 needs them. */
final class FilterRunTest {
    private static final int LEAST = Integer.MIN_VALUE;
    private static final int GREATEST = Integer.MAX_VALUE;
    private static final int[] NO_BYTES = {};

    public static void main(String[] args) {
        loadByte();
        loadByteFromX();
        loadFromXDoesNotWrap();
        loadLength();
        addWraps();
        maskAndShift();
        tests();
        jumps();
        ends();
        beginsWithZeros();
        Run.end();
    }

    /** The instructions, each with code, k, yes and no, accept the frame or not. */
    private static void due(String name, boolean accepted, int[] frame, int[]... instructions) {
        Run run = new Run("filter: " + name, 4, 4);
        run.openMap(3).ok();
        for (int[] each : instructions) {
            run.op(3, each[0], each[1], each.length > 2 ? each[2] : 0, each.length > 2 ? each[3] : 0);
        }
        run.install(3).ok();
        run.arrive(frame).due(accepted ? 3 : BindingKernel.REFUSED);
        run.count(5, 3).due(accepted ? 1 : 0);
    }

    private static int[] i(int... parts) {
        return parts;
    }

    /** The prepared A equals the value wanted. */
    private static void dueA(String name, int wanted, int[] frame, int[]... preparation) {
        int[][] whole = new int[preparation.length + 3][];
        System.arraycopy(preparation, 0, whole, 0, preparation.length);
        whole[preparation.length] = i(7, wanted, 0, 1);
        whole[preparation.length + 1] = i(10, 1);
        whole[preparation.length + 2] = i(10, 0);
        due(name, true, frame, whole);
        whole[preparation.length] = i(7, wanted + 1, 0, 1);
        due(name + ", not one more", false, frame, whole);
    }

    private static void loadByte() {
        int[] frame = {9, 8, 255};
        dueA("byte 0", 9, frame, i(0, 0));
        dueA("byte 2", 255, frame, i(0, 2));
        due("byte 3 is not there", false, frame, i(0, 3), i(10, 1));
        due("byte 63 is not there", false, frame, i(0, 63), i(10, 1));
        due("byte 0 of nothing", false, NO_BYTES, i(0, 0), i(10, 1));
        dueA("byte k whatever X is", 8, frame, i(2, 0), i(3, 0), i(0, 1));
    }

    private static void loadByteFromX() {
        int[] frame = {2, 50, 51, 52};
        dueA("X is 0 at first", 51, frame, i(1, 2));
        dueA("X + 1", 52, frame, i(0, 0), i(3, 0), i(1, 1));
        due("X + k is the length", false, frame, i(0, 0), i(3, 0), i(1, 2), i(10, 1));
        dueA("X is negative", 50, frame, i(4, -2), i(3, 0), i(1, 3));
        due("X + k is -1", false, frame, i(4, -2), i(3, 0), i(1, 1), i(10, 1));
        dueA("X -63 + 63", 2, frame, i(4, -63), i(3, 0), i(1, 63));
    }

    private static void loadFromXDoesNotWrap() {
        int[] frame = {1, 2, 3, 4};
        due("greatest X + 1", false, frame, i(4, GREATEST), i(3, 0), i(1, 1), i(10, 1));
        due("greatest X + 63", false, frame, i(4, GREATEST), i(3, 0), i(1, 63), i(10, 1));
        due("least X + 63", false, frame, i(4, LEAST), i(3, 0), i(1, 63), i(10, 1));
        due("least X + 0", false, frame, i(4, LEAST), i(3, 0), i(1, 0), i(10, 1));
    }

    private static void loadLength() {
        dueA("length 0", 0, NO_BYTES, i(4, 7), i(2, 5));
        dueA("length 3", 3, i(200, 201, 202), i(2, 0));
        dueA("length 16", 16, new int[16], i(2, 0));
    }

    private static void addWraps() {
        dueA("add", 12, NO_BYTES, i(4, 5), i(4, 7));
        dueA("add less than nothing", -2, NO_BYTES, i(4, 5), i(4, -7));
        dueA("add wraps", LEAST, NO_BYTES, i(4, GREATEST), i(4, 1));
        dueA("add wraps downwards", GREATEST, NO_BYTES, i(4, LEAST), i(4, -1));
    }

    private static void maskAndShift() {
        dueA("and", 8, NO_BYTES, i(4, 12), i(5, 10));
        dueA("and with -1", -9, NO_BYTES, i(4, -9), i(5, -1));
        dueA("shift by 0", -9, NO_BYTES, i(4, -9), i(6, 0));
        dueA("shift", 5, NO_BYTES, i(4, 23), i(6, 2));
        dueA("shift brings zeros", 1, NO_BYTES, i(4, -1), i(6, 31));
        dueA("shift by 1 brings a zero", GREATEST, NO_BYTES, i(4, -1), i(6, 1));
    }

    private static void dueTest(String name, boolean so, int a, int code, int k) {
        due(name + ", yes", so, NO_BYTES, i(4, a), i(code, k, 0, 1), i(10, 1), i(10, 0));
        due(name + ", no", !so, NO_BYTES, i(4, a), i(code, k, 1, 0), i(10, 1), i(10, 0));
    }

    private static void tests() {
        dueTest("7 equal to 7", true, 7, 7, 7);
        dueTest("7 equal to -7", false, 7, 7, -7);
        dueTest("8 greater than 7", true, 8, 8, 7);
        dueTest("7 greater than 7", false, 7, 8, 7);
        dueTest("-1 greater than 1", false, -1, 8, 1);
        dueTest("1 greater than -1", true, 1, 8, -1);
        dueTest("greatest greater than least", true, GREATEST, 8, LEAST);
        dueTest("6 and 3 have a bit", true, 6, 9, 3);
        dueTest("6 and 9 have none", false, 6, 9, 9);
        dueTest("0 and -1 have none", false, 0, 9, -1);
        dueTest("the sign bit", true, -5, 9, LEAST);
    }

    private static void jumps() {
        int[][] ladder = {
            i(0, 0), i(7, 1, 3, 0), i(7, 2, 3, 0), i(7, 3, 0, 3), i(10, 1), i(10, 1), i(10, 1), i(10, 0)
        };
        due("ladder 1", true, i(1), ladder);
        due("ladder 2", true, i(2), ladder);
        due("ladder 3", true, i(3), ladder);
        due("ladder 4", false, i(4), ladder);
        due("a test leaves A", true, i(6), i(0, 0), i(8, 1, 0, 0), i(7, 6, 0, 1), i(11, 0), i(10, 0));
        due("jumps of what is no test", true, NO_BYTES, i(2, 0, 1, 1), i(10, 1), i(10, 0));
        due("from the first to the last", true, NO_BYTES,
            i(7, 0, 14, 0), i(10, 0), i(10, 0), i(10, 0), i(10, 0), i(10, 0), i(10, 0), i(10, 0),
            i(10, 0), i(10, 0), i(10, 0), i(10, 0), i(10, 0), i(10, 0), i(10, 0), i(10, 1));
        due("sixteen steps", true, NO_BYTES,
            i(4, 1), i(4, 1), i(4, 1), i(4, 1), i(4, 1), i(4, 1), i(4, 1), i(4, 1),
            i(4, 1), i(4, 1), i(4, 1), i(4, 1), i(4, 1), i(4, 1), i(4, -13), i(11, 0));
    }

    private static void ends() {
        due("end, k 1", true, NO_BYTES, i(10, 1));
        due("end, k -1", true, NO_BYTES, i(10, -1));
        due("end, k 0", false, i(1), i(2, 0), i(10, 0));
        due("end, A 0", false, NO_BYTES, i(11, 1));
        due("end, A -1", true, NO_BYTES, i(4, -1), i(11, 0));
    }

    private static void beginsWithZeros() {
        Run run = new Run("filter: A and X begin anew", 4, 4);
        run.openMap(0).ok();
        run.op(0, 7, 0, 1, 0).due(0);
        run.op(0, 10, 0).due(1);
        run.op(0, 1, 0).due(2);
        run.op(0, 3, 0).due(3);
        run.op(0, 11, 0).due(4);
        run.install(0).ok();
        run.arrive(3).due(0);
        run.arrive(3).due(0);
        run.arrive(0).refused();
    }
}
