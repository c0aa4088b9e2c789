/** Promise 13: push. */
final class PushTest {
    private static final Document DOC = new Document("Promise 13: push");

    public static void main(String[] args) {
        bytesInRange();
        atTheEnd();
        emptyAtFirst();
        sixteenThere();
        answersHowMany();
        DOC.end();
    }

    private static void bytesInRange() {
        Run run = DOC.run("Puts a byte 0 .. 255 at the end of the arriving frame,", 4, 4);
        run.openMap(0).ok();
        run.installAcceptAll(0);
        int[] noBytes = {-1, 256, -128, Integer.MIN_VALUE, Integer.MAX_VALUE};
        for (int value : noBytes) {
            run.push(value).refused();
        }
        run.push(0).due(1);
        run.push(255).due(2);
        for (int value : noBytes) {
            run.push(value).refused();
        }
        run.arrive().due(0);
        run.got(0, -1).due(2);
        run.got(0, 0).due(0);
        run.got(0, 1).due(255);
    }

    private static void atTheEnd() {
        for (int from = 0; from < 256; from += 16) {
            Run run = DOC.run("Puts a byte 0 .. 255 at the end of the arriving frame,", 4, 4).of("bytes from " + from);
            run.openMap(0).ok();
            run.installAcceptAll(0);
            for (int i = 0; i < 16; i++) {
                run.push(from + i).due(i + 1);
            }
            run.arrive().due(0);
            for (int i = 0; i < 16; i++) {
                run.got(0, i).due(from + i);
            }
        }
    }

    private static void emptyAtFirst() {
        Run run = DOC.run("which is empty at first.", 4, 4);
        run.openMap(0).ok();
        run.installAcceptAll(0);
        run.arrive().due(0);
        run.got(0, -1).due(0);
        Run other = DOC.run("which is empty at first.", 4, 4).of("so the first push answers 1");
        other.push(9).due(1);
    }

    private static void sixteenThere() {
        Run run = DOC.run("16 bytes there: FULL.", 4, 4);
        run.openMap(0).ok();
        run.installAcceptAll(0);
        for (int i = 0; i < 15; i++) {
            run.push(100 + i).due(i + 1);
        }
        run.push(115).due(16);
        run.push(1).full();
        run.push(0).full();
        run.push(255).full();
        run.push(256).refused();
        run.push(-1).refused();
        run.arrive().due(0);
        run.got(0, -1).due(16);
        run.got(0, 15).due(115);
        run.got(0, 16).refused();
        run.push(1).due(1);
    }

    private static void answersHowMany() {
        Run run = DOC.run("Else the number of its bytes.", 4, 4);
        for (int round = 0; round < 2; round++) {
            for (int i = 1; i <= 16; i++) {
                run.push(77).due(i);
            }
            run.arrive().refused();
        }
    }
}
