/** Promise 15: got. */
final class GotTest {
    private static final Document DOC = new Document("Promise 15: got");

    public static void main(String[] args) {
        bytesOfTheOldest();
        wrongApps();
        lengthOfTheOldest();
        noFrame();
        noSuchByte();
        shorterFrameAfterALonger();
        DOC.end();
    }

    private static void bytesOfTheOldest() {
        Run run = DOC.run("Byte i of the oldest frame in app's queue,", 4, 4);
        run.openMap(0).ok();
        run.installAcceptAll(0);
        run.arrive(0, 255, 128).due(0);
        run.arrive(9, 8, 7).due(0);
        run.got(0, 0).due(0);
        run.got(0, 1).due(255);
        run.got(0, 2).due(128);
        run.got(0, 2).due(128);
        run.count(5, 0).due(2);
        run.next(0).due(1);
        run.got(0, 0).due(9);
        run.got(0, 1).due(8);
        run.got(0, 2).due(7);
    }

    private static void wrongApps() {
        Run run = DOC.run("Byte i of the oldest frame in app's queue,", 4, 4).of("wrong apps");
        run.openMaps(0, 1);
        run.installAcceptAll(0);
        run.arrive(5, 6).due(0);
        for (int app : new int[] {-1, 6, 1, 2, Integer.MIN_VALUE, Integer.MAX_VALUE}) {
            run.got(app, 0).refused();
            run.got(app, -1).refused();
        }
        run.close(0).ok();
        run.got(0, 0).refused();
        run.got(0, -1).refused();
    }

    private static void lengthOfTheOldest() {
        Run run = DOC.run("for i -1 its length;", 4, 4);
        run.openMap(0).ok();
        run.installAcceptAll(0);
        for (int length = 0; length <= 16; length++) {
            run.arrive(new int[length]).due(0);
            run.arrive(1, 2).due(0);
            run.got(0, -1).due(length);
            run.next(0).due(1);
            run.got(0, -1).due(2);
            run.next(0).due(0);
        }
    }

    private static void noFrame() {
        Run run = DOC.run("REFUSED if there is no frame", 4, 4);
        run.openMap(0).ok();
        for (int i = -1; i <= 16; i++) {
            run.got(0, i).refused();
        }
        run.installAcceptAll(0);
        run.push(1).due(1);
        run.got(0, 0).refused();
        run.got(0, -1).refused();
        run.arrive().due(0);
        run.got(0, 0).due(1);
        run.next(0).due(0);
        run.got(0, 0).refused();
        run.got(0, -1).refused();
    }

    private static void noSuchByte() {
        for (int length = 0; length <= 16; length++) {
            Run run = DOC.run("or no such byte.", 4, 4).of("of " + length);
            run.openMap(0).ok();
            run.installAcceptAll(0);
            run.arrive(new int[length]).due(0);
            for (int i : new int[] {-2, -3, length, length + 1, 16, 17, Integer.MIN_VALUE, Integer.MAX_VALUE}) {
                run.got(0, i).refused();
            }
            if (length > 0) {
                run.got(0, length - 1).due(0);
            }
        }
    }

    private static void shorterFrameAfterALonger() {
        Run run = DOC.run("or no such byte.", 4, 4).of("a shorter frame after a longer");
        run.openMap(0).ok();
        run.installAcceptAll(0);
        for (int i = 0; i < 9; i++) {
            run.arrive(1, 2, 3).due(0);
            run.next(0).due(0);
        }
        run.fillQueue(0, 4);
        for (int left = 3; left >= 0; left--) {
            run.got(0, -1).due(1);
            run.got(0, 0).due(4);
            run.got(0, 1).refused();
            run.next(0).due(left);
        }
    }
}
