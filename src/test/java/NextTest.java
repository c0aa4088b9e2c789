/** Promise 16: next. */
final class NextTest {
    private static final Document DOC = new Document("Promise 16: next");
    private static final String LEAVES = "The oldest frame leaves app's queue: the number left.";

    public static void main(String[] args) {
        oldestLeaves();
        numberLeft();
        roundAndRound();
        wrongApps();
        noFrame();
        DOC.end();
    }

    private static void oldestLeaves() {
        Run run = DOC.run(LEAVES, 4, 4);
        run.openMaps(0, 1);
        run.installFirstByte(1, 9);
        run.installAcceptAll(0);
        run.arrive(1).due(0);
        run.arrive(9).due(1);
        run.arrive(2).due(0);
        run.arrive(3).due(0);
        run.next(0).due(2);
        run.got(0, 0).due(2);
        run.next(0).due(1);
        run.got(0, 0).due(3);
        run.next(0).due(0);
        run.got(0, 0).refused();
        run.count(5, 0).due(0);
        run.count(5, 1).due(1);
        run.got(1, 0).due(9);
    }

    private static void numberLeft() {
        for (int frames = 1; frames <= 4; frames++) {
            Run run = DOC.run(LEAVES, 4, 4).of("of " + frames);
            run.openMap(0).ok();
            run.installAcceptAll(0);
            for (int i = 0; i < frames; i++) {
                run.arrive().due(0);
            }
            for (int left = frames - 1; left >= 0; left--) {
                run.next(0).due(left);
                run.count(5, 0).due(left);
            }
            run.next(0).refused();
        }
    }

    private static void roundAndRound() {
        for (int standing = 0; standing < 4; standing++) {
            Run run = DOC.run(LEAVES, 4, 4).of("round and round with " + standing);
            run.openMap(0).ok();
            run.installAcceptAll(0);
            for (int i = 0; i < standing; i++) {
                run.arrive(i).due(0);
            }
            for (int i = standing; i < 40; i++) {
                run.arrive(i).due(0);
                run.got(0, 0).due(i - standing);
                run.next(0).due(standing);
            }
        }
    }

    private static void wrongApps() {
        Run run = DOC.run(LEAVES, 4, 4).of("wrong apps");
        run.openMaps(0, 1);
        run.installAcceptAll(0);
        run.arrive(5).due(0);
        for (int app : new int[] {-1, 6, 2, Integer.MIN_VALUE, Integer.MAX_VALUE}) {
            run.next(app).refused();
        }
        run.count(5, 0).due(1);
        run.close(0).ok();
        run.next(0).refused();
    }

    private static void noFrame() {
        Run run = DOC.run("No frame: REFUSED.", 4, 4);
        run.openMaps(0, 1);
        run.next(0).refused();
        run.installAcceptAll(0);
        run.next(0).refused();
        run.arrive().due(0);
        run.next(1).refused();
        run.next(0).due(0);
        run.next(0).refused();
        run.next(0).refused();
        run.arrive(6).due(0);
        run.got(0, 0).due(6);
        run.next(0).due(0);
    }
}
