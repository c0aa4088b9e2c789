/** The Terms: filters, what each of their instructions does, and frames. */
final class FilterTerms {
    private static final int LEAST = Integer.MIN_VALUE;
    private static final int GREATEST = Integer.MAX_VALUE;
    private static final int[] NO_BYTES = {};
    private static final String NOT_THERE = "a byte that is not there (index below 0, or L or more)"
        + " ends the run: not accepted;";
    private static final String AFTER_TESTS = "After 7, 8, 9 instruction i is followed by i + 1 + yes if it is so,"
        + " else by i + 1 + no;";

    private final Document doc;
    /** The words that the next runs try. */
    private String words;

    private FilterTerms(Document doc) {
        this.doc = doc;
    }

    static void tryAll(Document doc) {
        FilterTerms terms = new FilterTerms(doc);
        terms.draftAndFilter();
        terms.beginsWithZeros();
        terms.wholeBytes();
        terms.loadByte();
        terms.loadByteFromX();
        terms.byteThatIsNotThere();
        terms.loadLength();
        terms.setX();
        terms.add();
        terms.maskAndShift();
        terms.tests();
        terms.ends();
        terms.jumps();
        terms.afterOthersTheNext();
        terms.orderOfInstalling();
        terms.queueOfFour();
    }

    private static int[] i(int... parts) {
        return parts;
    }

    /** The instructions, each with code, k, yes and no, accept the frame or not. */
    private void due(String which, boolean accepted, int[] frame, int[]... instructions) {
        Run run = doc.run(words, 4, 4).of(which);
        run.openMap(3).ok();
        for (int[] each : instructions) {
            run.op(3, each[0], each[1], each.length > 2 ? each[2] : 0, each.length > 2 ? each[3] : 0);
        }
        run.install(3).ok();
        run.arrive(frame).due(accepted ? 3 : BindingKernel.REFUSED);
        run.count(5, 3).due(accepted ? 1 : 0);
    }

    /** After the preparation A is the value wanted, and no other. */
    private void dueA(String which, int wanted, int[] frame, int[]... preparation) {
        int[][] whole = new int[preparation.length + 3][];
        System.arraycopy(preparation, 0, whole, 0, preparation.length);
        whole[preparation.length] = i(7, wanted, 0, 1);
        whole[preparation.length + 1] = i(10, 1);
        whole[preparation.length + 2] = i(10, 0);
        due(which, true, frame, whole);
        whole[preparation.length] = i(7, wanted + 1, 0, 1);
        due(which + ", not one more", false, frame, whole);
    }

    /** The instructions end, not accepting, before they come to one that accepts. */
    private void dueEnd(String which, int[] frame, int[]... instructions) {
        int[][] whole = new int[instructions.length + 1][];
        System.arraycopy(instructions, 0, whole, 0, instructions.length);
        whole[instructions.length] = i(10, 1);
        due(which, false, frame, whole);
    }

    private void draftAndFilter() {
        Run run = doc.run("FILTERS. An application has a draft of at most 16 instructions,", 4, 4);
        run.openMaps(0, 1);
        for (int at = 0; at < 16; at++) {
            run.op(0, 10, 1).due(at);
        }
        run.op(0, 10, 1).full();
        run.op(1, 10, 1).due(0);
        run.install(0).ok();
        run.count(7, 0).due(1);

        Run opened = doc.run("empty when it is opened,", 4, 4);
        opened.openMap(0).ok();
        opened.install(0).ok();
        opened.count(7, 0).due(0);
        opened.op(0, 2, 1).due(0);
        opened.close(0).ok();
        opened.openMap(0).ok();
        opened.op(0, 10, 1).due(0);

        Run one = doc.run("and one filter or none.", 4, 4);
        one.openMaps(0, 1);
        one.count(7, 0).due(0);
        one.installFirstByte(0, 1);
        one.installFirstByte(0, 2);
        one.installAcceptAll(1);
        one.count(7, 0).due(1);
        one.count(7, 1).due(2);
        one.arrive(1).due(1);
        one.arrive(2).due(0);
        one.install(0).ok();
        one.count(7, 0).due(0);
        one.count(7, 1).due(1);
        one.arrive(2).due(1);
    }

    private void beginsWithZeros() {
        words = "with two ints A and X, 0 at first,";
        dueA("A", 0, i(7));
        dueA("X", 7, i(7, 8), i(1, 0));
        Run run = doc.run(words, 4, 4).of("in every run anew");
        run.openMap(0).ok();
        run.op(0, 7, 0, 1, 0).due(0);
        run.op(0, 10, 0).due(1);
        run.op(0, 1, 0).due(2);
        run.op(0, 3, 0).due(3);
        run.op(0, 11, 0).due(4);
        run.install(0).ok();
        run.arrive(3).due(0);
        run.arrive(3).due(0);
        run.arrive(0).refused();

        words = "from instruction 0. Instructions (code, operand k, yes, no):";
        due("it alone", true, NO_BYTES, i(10, 1), i(10, 0));
        due("it alone, not accepting", false, NO_BYTES, i(10, 0), i(10, 1));
    }

    private void wholeBytes() {
        words = "A filter runs over a frame of L bytes (0 .. 255 each)";
        for (int value : new int[] {0, 1, 127, 128, 255}) {
            dueA("a byte " + value, value, i(value), i(0, 0));
        }
        for (int length = 0; length <= 16; length++) {
            dueA("L " + length, length, new int[length], i(2, 0));
        }
    }

    private void loadByte() {
        words = "0 A becomes byte k of the frame;";
        int[] frame = {9, 8, 255, 0, 1, 2, 3, 4, 5, 6, 7, 10, 11, 12, 13, 200};
        for (int k = 0; k < 16; k++) {
            dueA("byte " + k, frame[k], frame, i(4, 77), i(0, k));
        }
        dueA("whatever X is", 8, frame, i(2, 0), i(3, 0), i(0, 1));
    }

    private void loadByteFromX() {
        words = "1 A becomes byte X + k (X + k worked out exactly, without wrapping);";
        int[] frame = {2, 50, 51, 52};
        dueA("X 0", 51, frame, i(1, 2));
        dueA("X 2", 52, frame, i(0, 0), i(3, 0), i(1, 1));
        dueA("X 3, k 0", 52, frame, i(4, 3), i(3, 0), i(1, 0));
        dueA("X -2", 50, frame, i(4, -2), i(3, 0), i(1, 3));
        dueA("X -63", 2, frame, i(4, -63), i(3, 0), i(1, 63));
        dueA("X -60", 52, frame, i(4, -60), i(3, 0), i(1, 63));
        dueEnd("greatest X + 1", frame, i(4, GREATEST), i(3, 0), i(1, 1));
        dueEnd("greatest X + 63", frame, i(4, GREATEST), i(3, 0), i(1, 63));
        dueEnd("least X + 0", frame, i(4, LEAST), i(3, 0), i(1, 0));
        dueEnd("least X + 63", frame, i(4, LEAST), i(3, 0), i(1, 63));
        for (int bit = 8; bit < 32; bit++) {
            dueEnd("X 2 to the power " + bit, frame, i(4, 1 << bit), i(3, 0), i(1, 1));
        }
    }

    private void byteThatIsNotThere() {
        words = NOT_THERE;
        for (int length = 0; length <= 16; length++) {
            int[] frame = new int[length];
            dueEnd("byte L of " + length, frame, i(0, length));
            dueEnd("byte L + 1 of " + length, frame, i(0, length + 1));
            dueEnd("byte 63 of " + length, frame, i(0, 63));
            dueEnd("X + k is L, " + length, frame, i(2, 0), i(3, 0), i(1, 0));
            dueEnd("X + k is L + 63, " + length, frame, i(2, 0), i(3, 0), i(1, 63));
            dueEnd("X + k is -1, " + length, frame, i(4, -1), i(3, 0), i(1, 0));
            dueEnd("X + k is -1 by k 62, " + length, frame, i(4, -63), i(3, 0), i(1, 62));
            dueEnd("X + k is -64, " + length, frame, i(4, -65), i(3, 0), i(1, 1));
        }
        dueEnd("though A is not 0", i(5), i(0, 0), i(0, 1), i(11, 0));
        Run run = doc.run(words, 4, 4).of("the next filter has its turn");
        run.openMaps(0, 1);
        run.op(0, 0, 1).due(0);
        run.op(0, 10, 1).due(1);
        run.install(0).ok();
        run.installAcceptAll(1);
        run.arrive(5).due(1);
        run.arrive(5, 6).due(0);
    }

    private void loadLength() {
        words = "2 A becomes L;";
        dueA("no bytes", 0, NO_BYTES, i(4, 7), i(2, 5));
        dueA("three bytes", 3, i(200, 201, 202), i(2, 0));
        dueA("sixteen bytes", 16, new int[16], i(2, 0));
    }

    private void setX() {
        words = "3 X becomes A;";
        int[] frame = {30, 31, 32, 33};
        dueA("then X is it", 32, frame, i(4, 2), i(3, 9), i(1, 0));
        dueA("A stays", 2, frame, i(4, 2), i(3, 9));
        dueA("X stays when A changes", 31, frame, i(4, 1), i(3, 0), i(4, 2), i(1, 0));
        dueA("and can be set again", 33, frame, i(4, 1), i(3, 0), i(4, 2), i(3, 0), i(1, 0));
    }

    private void add() {
        words = "4 A + k (wraps);";
        dueA("12", 12, NO_BYTES, i(4, 5), i(4, 7));
        dueA("-2", -2, NO_BYTES, i(4, 5), i(4, -7));
        dueA("upwards", LEAST, NO_BYTES, i(4, GREATEST), i(4, 1));
        dueA("downwards", GREATEST, NO_BYTES, i(4, LEAST), i(4, -1));
        dueA("all the way", -2, NO_BYTES, i(4, GREATEST), i(4, GREATEST));
    }

    private void maskAndShift() {
        words = "5 A and k, bit by bit;";
        dueA("12 and 10", 8, NO_BYTES, i(4, 12), i(5, 10));
        dueA("-9 and -1", -9, NO_BYTES, i(4, -9), i(5, -1));
        dueA("-9 and 0", 0, NO_BYTES, i(4, -9), i(5, 0));
        dueA("the sign", LEAST, NO_BYTES, i(4, -9), i(5, LEAST));
        words = "6 A shifted right by k, zeros coming in;";
        dueA("by 0", -9, NO_BYTES, i(4, -9), i(6, 0));
        dueA("by 2", 5, NO_BYTES, i(4, 23), i(6, 2));
        for (int k = 1; k <= 31; k++) {
            dueA("all ones by " + k, (1 << 32 - k) - 1, NO_BYTES, i(4, -1), i(6, k));
        }
    }

    private void dueTest(boolean so, int a, int code, int k) {
        String which = a + " against " + k;
        due(which + ", yes", so, NO_BYTES, i(4, a), i(code, k, 0, 1), i(10, 1), i(10, 0));
        due(which + ", no", !so, NO_BYTES, i(4, a), i(code, k, 1, 0), i(10, 1), i(10, 0));
    }

    private void tests() {
        words = "7 A equal to k;";
        dueTest(true, 7, 7, 7);
        dueTest(false, 7, 7, -7);
        dueTest(false, 7, 7, 8);
        dueTest(true, LEAST, 7, LEAST);
        dueTest(false, LEAST, 7, GREATEST);
        words = "8 A greater than k (signed);";
        dueTest(true, 8, 8, 7);
        dueTest(false, 7, 8, 7);
        dueTest(false, 6, 8, 7);
        dueTest(false, -1, 8, 1);
        dueTest(true, 1, 8, -1);
        dueTest(true, GREATEST, 8, LEAST);
        dueTest(false, LEAST, 8, GREATEST);
        words = "9 A and k have a common bit;";
        dueTest(true, 6, 9, 3);
        dueTest(false, 6, 9, 9);
        dueTest(false, 0, 9, -1);
        dueTest(false, -1, 9, 0);
        dueTest(true, -5, 9, LEAST);
    }

    private void ends() {
        words = "10 end, accepted if k is not 0;";
        for (int k : new int[] {1, -1, 2, 256, LEAST, GREATEST}) {
            due("k " + k, true, NO_BYTES, i(10, k), i(10, 0));
        }
        due("k 0", false, NO_BYTES, i(10, 0), i(10, 1));
        due("k 0, A 1", false, i(1), i(2, 0), i(10, 0));
        words = "11 end, accepted if A is not 0.";
        for (int a : new int[] {1, -1, 2, 256, LEAST, GREATEST}) {
            due("A " + a, true, NO_BYTES, i(4, a), i(11, 0), i(10, 0));
        }
        due("A 0", false, NO_BYTES, i(11, 0), i(10, 1));
        due("A 0, k 1", false, NO_BYTES, i(11, 1));
    }

    private void jumps() {
        words = AFTER_TESTS;
        for (int code = 7; code <= 9; code++) {
            int k = code == 8 ? 0 : 1;
            for (int jump = 0; jump <= 13; jump++) {
                dueJump(code, k, jump, true);
                dueJump(code, k, jump, false);
            }
        }
        due("from the first to the last", true, NO_BYTES,
            i(7, 0, 14, 0), i(10, 0), i(10, 0), i(10, 0), i(10, 0), i(10, 0), i(10, 0), i(10, 0),
            i(10, 0), i(10, 0), i(10, 0), i(10, 0), i(10, 0), i(10, 0), i(10, 0), i(10, 1));
        due("a test leaves A", true, i(6), i(0, 0), i(8, 1, 0, 0), i(7, 6, 0, 1), i(11, 0), i(10, 0));
        int[][] ladder = {
            i(0, 0), i(7, 1, 3, 0), i(7, 2, 3, 0), i(7, 3, 0, 3), i(10, 1), i(10, 1), i(10, 1), i(10, 0)
        };
        due("ladder 1", true, i(1), ladder);
        due("ladder 2", true, i(2), ladder);
        due("ladder 3", true, i(3), ladder);
        due("ladder 4", false, i(4), ladder);
    }

    /** The first byte, 1 or 0, tells if the test is so; only the instruction jumped to accepts. */
    private void dueJump(int code, int k, int jump, boolean yes) {
        int[][] program = new int[16][];
        program[0] = i(0, 0);
        program[1] = i(code, k, yes ? jump : jump == 0 ? 1 : 0, yes ? jump == 0 ? 1 : 0 : jump);
        for (int at = 2; at < 16; at++) {
            program[at] = i(10, at == 2 + jump ? 1 : 0);
        }
        String which = "code " + code + " by " + jump;
        due(which + ", so", yes, i(1), program);
        due(which + ", not so", !yes, i(0), program);
    }

    private void afterOthersTheNext() {
        words = "after 0 .. 6 by i + 1.";
        for (int code = 0; code <= 6; code++) {
            due("code " + code, true, i(4), i(code, 0, 1, 1), i(10, 1), i(10, 0));
            due("code " + code + ", not accepting", false, i(4), i(code, 0, 1, 1), i(10, 0), i(10, 1));
        }
        due("sixteen steps", true, NO_BYTES,
            i(4, 1), i(4, 1), i(4, 1), i(4, 1), i(4, 1), i(4, 1), i(4, 1), i(4, 1),
            i(4, 1), i(4, 1), i(4, 1), i(4, 1), i(4, 1), i(4, 1), i(4, -13), i(11, 0));
    }

    private void orderOfInstalling() {
        Run run = doc.run("The installed filters stand in the order in which they were installed.", 4, 6);
        run.openMaps(0, 5);
        int[] order = {4, 2, 0, 5, 3, 1};
        for (int app : order) {
            run.installAcceptAll(app);
        }
        for (int place = 0; place < 6; place++) {
            run.count(7, order[place]).due(1 + place);
        }
        for (int app : order) {
            run.arrive().due(app);
            run.installFirstByte(app, 99);
        }
        run.arrive().refused();
        run.arrive(99).due(4);
    }

    private void queueOfFour() {
        Run run = doc.run("Each application has a queue of at most 4 frames.", 4, 6);
        run.openMaps(0, 5);
        for (int app = 0; app < 6; app++) {
            run.installFirstByte(app, app);
        }
        for (int app = 0; app < 6; app++) {
            run.fillQueue(app, app);
            run.arrive(app).due(BindingKernel.LOST);
            run.count(5, app).due(4);
        }
        run.count(2, 0).due(6);
    }
}
