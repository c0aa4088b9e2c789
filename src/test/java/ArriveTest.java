/** Promise 14: arrive. */
final class ArriveTest {
    public static void main(String[] args) {
        firstFilterInOrder();
        emptyFrame();
        queueOfFour();
        lostGoesToNoOther();
        noneAccepts();
        noneOfSixAccepts();
        queuesAreApart();
        Run.end();
    }

    private static void firstFilterInOrder() {
        Run run = new Run("arrive: first in order", 4, 6);
        run.openMap(0).ok();
        run.openMap(1).ok();
        run.openMap(5).ok();
        run.installFirstByte(5, 1);
        run.installFirstByte(0, 2);
        run.installAcceptAll(1);
        run.arrive(1).due(5);
        run.arrive(2).due(0);
        run.arrive(3).due(1);
        run.installAcceptAll(5);
        run.arrive(1).due(1);
        run.close(1).ok();
        run.arrive(1).due(5);
    }

    private static void emptyFrame() {
        Run run = new Run("arrive: an empty frame", 4, 4);
        run.arrive().refused();
        run.openMap(2).ok();
        run.installAcceptAll(2);
        run.arrive().due(2);
        run.count(5, 2).due(1);
        run.got(2, -1).due(0);
        run.got(2, 0).refused();
    }

    private static void queueOfFour() {
        Run run = new Run("arrive: a queue of four", 4, 4);
        run.openMap(0).ok();
        run.installAcceptAll(0);
        for (int i = 0; i < 4; i++) {
            run.arrive(10 + i).due(0);
        }
        run.arrive(20).due(BindingKernel.LOST);
        run.arrive(21).due(BindingKernel.LOST);
        run.count(2, 0).due(2);
        run.count(5, 0).due(4);
        for (int i = 0; i < 4; i++) {
            run.got(0, 0).due(10 + i);
            run.next(0).due(3 - i);
        }
        run.arrive(30).due(0);
        run.got(0, 0).due(30);
        run.close(0).ok();
        run.count(2, 0).due(2);
    }

    private static void lostGoesToNoOther() {
        Run run = new Run("arrive: LOST goes to no other", 4, 4);
        run.openMap(0).ok();
        run.openMap(1).ok();
        run.installFirstByte(0, 7);
        run.installAcceptAll(1);
        for (int i = 0; i < 4; i++) {
            run.arrive(7, i).due(0);
        }
        run.arrive(7, 9).due(BindingKernel.LOST);
        run.count(5, 1).due(0);
        run.push(1).due(1);
        run.arrive().due(1);
        run.next(0).due(3);
        run.arrive(7, 5).due(0);
    }

    private static void noneAccepts() {
        Run run = new Run("arrive: none accepts", 4, 4);
        run.openMap(0).ok();
        run.installFirstByte(0, 7);
        run.arrive(8).refused();
        run.arrive().refused();
        run.count(5, 0).due(0);
        run.count(2, 0).due(0);
        run.push(7).due(1);
        run.arrive().due(0);
        run.got(0, -1).due(1);
    }

    private static void noneOfSixAccepts() {
        Run run = new Run("arrive: none of six accepts", 4, 6);
        for (int app = 0; app < 6; app++) {
            run.openMap(app).ok();
            run.installFirstByte(app, app);
        }
        run.arrive(6).refused();
        for (int app = 5; app >= 0; app--) {
            run.arrive(app).due(app);
        }
    }

    private static void queuesAreApart() {
        Run run = new Run("arrive: queues are apart", 4, 4);
        run.openMap(0).ok();
        run.openMap(1).ok();
        run.installFirstByte(0, 0);
        run.installFirstByte(1, 1);
        run.arrive(0, 50).due(0);
        run.arrive(1, 51, 52).due(1);
        run.arrive(0, 53, 54, 55).due(0);
        run.got(0, 1).due(50);
        run.got(1, 1).due(51);
        run.got(1, -1).due(3);
        run.next(0).due(1);
        run.got(0, -1).due(4);
        run.got(0, 3).due(55);
        run.got(1, 2).due(52);
    }
}
