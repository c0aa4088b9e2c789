/** Promise 13: push. */
final class PushTest {
    public static void main(String[] args) {
        wrongBytes();
        sixteenAtMost();
        arriveBeginsANewFrame();
        Run.end();
    }

    private static void wrongBytes() {
        Run run = new Run("push: wrong bytes", 4, 4);
        run.push(-1).refused();
        run.push(256).refused();
        run.push(Integer.MIN_VALUE).refused();
        run.push(Integer.MAX_VALUE).refused();
        run.push(0).due(1);
        run.push(255).due(2);
        run.push(256).refused();
        run.push(7).due(3);
    }

    private static void sixteenAtMost() {
        Run run = new Run("push: sixteen at most", 4, 4);
        run.openMap(0).ok();
        run.installAcceptAll(0);
        for (int i = 0; i < 16; i++) {
            run.push(100 + i).due(i + 1);
        }
        run.push(1).full();
        run.push(256).refused();
        run.push(-1).refused();
        run.arrive().due(0);
        run.got(0, -1).due(16);
        for (int i = 0; i < 16; i++) {
            run.got(0, i).due(100 + i);
        }
        run.got(0, 16).refused();
    }

    private static void arriveBeginsANewFrame() {
        Run run = new Run("push: a new frame", 4, 4);
        run.push(1).due(1);
        run.push(2).due(2);
        run.arrive().refused();
        run.push(3).due(1);
        run.openMap(0).ok();
        run.installAcceptAll(0);
        run.arrive().due(0);
        run.push(4).due(1);
        run.got(0, -1).due(1);
        run.got(0, 0).due(3);
    }
}
