/** Promise 15: got. */
final class GotTest {
    public static void main(String[] args) {
        wrongNumbers();
        bytesOfTheOldest();
        shorterFrameAfterALonger();
        Run.end();
    }

    private static void wrongNumbers() {
        Run run = new Run("got: wrong numbers", 4, 4);
        run.got(0, -1).refused();
        run.openMap(0).ok();
        run.got(0, -1).refused();
        run.got(0, 0).refused();
        run.installAcceptAll(0);
        run.arrive(5, 6).due(0);
        run.got(-1, 0).refused();
        run.got(6, 0).refused();
        run.got(1, 0).refused();
        run.got(0, -2).refused();
        run.got(0, 2).refused();
        run.got(0, 16).refused();
        run.got(0, Integer.MIN_VALUE).refused();
        run.got(0, Integer.MAX_VALUE).refused();
        run.got(0, 1).due(6);
        run.close(0).ok();
        run.got(0, 1).refused();
    }

    private static void bytesOfTheOldest() {
        Run run = new Run("got: the oldest", 4, 4);
        run.openMap(0).ok();
        run.installAcceptAll(0);
        run.arrive(0, 255, 128).due(0);
        run.arrive(9).due(0);
        run.got(0, -1).due(3);
        run.got(0, 0).due(0);
        run.got(0, 1).due(255);
        run.got(0, 2).due(128);
        run.got(0, 3).refused();
        run.count(5, 0).due(2);
        run.next(0).due(1);
        run.got(0, -1).due(1);
        run.got(0, 0).due(9);
    }

    private static void shorterFrameAfterALonger() {
        Run run = new Run("got: a shorter frame", 4, 4);
        run.openMap(0).ok();
        run.installAcceptAll(0);
        for (int i = 0; i < 9; i++) {
            run.arrive(1, 2, 3).due(0);
            run.next(0).due(0);
        }
        for (int i = 0; i < 4; i++) {
            run.arrive(4).due(0);
        }
        for (int left = 3; left >= 0; left--) {
            run.got(0, -1).due(1);
            run.got(0, 0).due(4);
            run.got(0, 1).refused();
            run.next(0).due(left);
        }
    }
}
