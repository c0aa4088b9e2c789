/** Promise 14: arrive. */
final class ArriveTest {
    private static final Document DOC = new Document("Promise 14: arrive");
    private static final String FIRST = "is given to the application of the first filter in order that accepts it,";
    private static final String ANSWER = "Answers that application, the frame joining the end of its queue;";
    private static final String LOST_FRAME = "LOST if it has 4 frames (the frame is gone);";
    private static final String NONE_ACCEPTS = "REFUSED if no filter accepts (the frame is gone too).";
    private static final int LOST = BindingKernel.LOST;

    public static void main(String[] args) {
        emptyFrame();
        firstFilterInOrder();
        everyPlaceInOrder();
        newFrameBegins();
        joinsTheEnd();
        queuesAreApart();
        fourFrames();
        lostGoesToNoOther();
        lostFrameIsGone();
        noFilterAccepts();
        noFilterAtAll();
        DOC.end();
    }

    private static void emptyFrame() {
        Run run = DOC.run("The arriving frame (it may be empty)", 4, 4);
        run.arrive().refused();
        run.openMap(2).ok();
        run.installAcceptAll(2);
        run.arrive().due(2);
        run.count(5, 2).due(1);
        run.got(2, -1).due(0);
        run.got(2, 0).refused();
        run.arrive(0).due(2);
        run.next(2).due(1);
        run.got(2, -1).due(1);
    }

    private static void firstFilterInOrder() {
        Run run = DOC.run(FIRST, 4, 6);
        run.openMap(0).ok();
        run.openMap(1).ok();
        run.openMap(5).ok();
        run.installFirstByte(5, 1);
        run.installFirstByte(0, 2);
        run.installAcceptAll(1);
        run.arrive(1).due(5);
        run.arrive(2).due(0);
        run.arrive(3).due(1);
        run.installAcceptAll(5);
        run.arrive(1).due(1);
        run.close(1).ok();
        run.arrive(1).due(5);
        run.arrive(2).due(0);
        run.count(5, 5).due(2);
    }

    private static void everyPlaceInOrder() {
        Run run = DOC.run(FIRST, 4, 6).of("at every place");
        run.openMaps(0, 5);
        int[] order = {3, 0, 5, 1, 4, 2};
        for (int app : order) {
            run.installFirstByte(app, app);
        }
        for (int app : order) {
            run.arrive(app).due(app);
        }
        for (int app : order) {
            run.installAcceptAll(app);
        }
        for (int place = 0; place < 6; place++) {
            run.arrive(9).due(order[place]);
            run.close(order[place]).ok();
        }
        run.arrive(9).refused();
    }

    private static void newFrameBegins() {
        Run run = DOC.run("and a new, empty one begins.", 4, 4);
        run.openMap(0).ok();
        run.installAcceptAll(0);
        run.arrive(1, 2, 3).due(0);
        run.push(9).due(1);
        run.arrive().due(0);
        run.arrive().due(0);
        run.next(0).due(2);
        run.got(0, -1).due(1);
        run.got(0, 0).due(9);
        run.got(0, 1).refused();
        run.next(0).due(1);
        run.got(0, -1).due(0);
    }

    private static void joinsTheEnd() {
        Run run = DOC.run(ANSWER, 4, 4);
        run.openMap(3).ok();
        run.installAcceptAll(3);
        run.arrive(10).due(3);
        run.arrive(11, 12).due(3);
        run.arrive(13, 14, 15).due(3);
        run.count(5, 3).due(3);
        run.next(3).due(2);
        run.arrive(16).due(3);
        run.arrive(17).due(3);
        run.got(3, 0).due(11);
        run.next(3).due(3);
        run.got(3, 2).due(15);
        run.next(3).due(2);
        run.got(3, 0).due(16);
        run.next(3).due(1);
        run.got(3, 0).due(17);
    }

    private static void queuesAreApart() {
        Run run = DOC.run(ANSWER, 4, 6).of("of each application");
        run.openMaps(0, 5);
        for (int app = 0; app < 6; app++) {
            run.installFirstByte(app, app);
        }
        for (int app = 0; app < 6; app++) {
            run.arrive(app, 50 + app).due(app);
            run.arrive(app, 60 + app, 1).due(app);
        }
        for (int app = 0; app < 6; app++) {
            run.count(5, app).due(2);
            run.got(app, 1).due(50 + app);
            run.next(app).due(1);
            run.got(app, -1).due(3);
            run.got(app, 1).due(60 + app);
        }
    }

    private static void fourFrames() {
        Run run = DOC.run(LOST_FRAME, 4, 4);
        run.openMap(0).ok();
        run.installAcceptAll(0);
        for (int i = 0; i < 4; i++) {
            run.count(5, 0).due(i);
            run.arrive(10 + i).due(0);
        }
        run.count(2, 0).due(0);
        run.arrive(20).due(LOST);
        run.arrive().due(LOST);
        run.count(2, 0).due(2);
        run.count(5, 0).due(4);
        run.next(0).due(3);
        run.arrive(14).due(0);
        run.arrive(21).due(LOST);
        for (int i = 1; i < 5; i++) {
            run.got(0, 0).due(10 + i);
            run.next(0).due(4 - i);
        }
    }

    private static void lostGoesToNoOther() {
        Run run = DOC.run(LOST_FRAME, 4, 4).of("a later filter would accept it");
        run.openMaps(0, 1);
        run.installFirstByte(0, 7);
        run.installAcceptAll(1);
        run.fillQueue(0, 7);
        run.arrive(7).due(LOST);
        run.count(5, 1).due(0);
        run.arrive(8).due(1);
        run.arrive(7).due(LOST);
        run.count(2, 0).due(2);
    }

    private static void lostFrameIsGone() {
        Run run = DOC.run(LOST_FRAME, 4, 4).of("gone");
        run.openMap(0).ok();
        run.installAcceptAll(0);
        run.fillQueue(0, 1);
        run.arrive(2, 3, 4).due(LOST);
        run.push(5).due(1);
        run.next(0).due(3);
        run.count(5, 0).due(3);
        run.arrive().due(0);
        for (int left = 2; left >= 0; left--) {
            run.got(0, 0).due(1);
            run.next(0).due(left + 1);
        }
        run.got(0, -1).due(1);
        run.got(0, 0).due(5);
    }

    private static void noFilterAccepts() {
        Run run = DOC.run(NONE_ACCEPTS, 4, 6);
        run.openMaps(0, 5);
        for (int app = 0; app < 6; app++) {
            run.installFirstByte(app, app);
        }
        run.arrive(6, 1).refused();
        run.arrive().refused();
        run.count(2, 0).due(0);
        for (int app = 0; app < 6; app++) {
            run.count(5, app).due(0);
        }
        run.push(3).due(1);
        run.arrive().due(3);
        run.got(3, -1).due(1);
    }

    private static void noFilterAtAll() {
        Run run = DOC.run(NONE_ACCEPTS, 4, 4).of("there is none");
        run.openMap(0).ok();
        run.arrive(1, 2).refused();
        run.push(4).due(1);
        run.installAcceptAll(0);
        run.arrive().due(0);
        run.got(0, -1).due(1);
        run.count(5, 0).due(1);
        run.count(2, 0).due(0);
        run.installFirstByte(0, 9);
        run.arrive(9).due(0);
        run.arrive(9).due(0);
        run.arrive(9).due(0);
        run.arrive(8).refused();
        run.count(2, 0).due(0);
    }
}
