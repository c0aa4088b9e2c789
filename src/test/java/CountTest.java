/** Promise 21: count. */
final class CountTest {
    public static void main(String[] args) {
        wrongNumbers();
        appNotLookedAt();
        everyCount();
        closedApps();
        Run.end();
    }

    private static void wrongNumbers() {
        Run run = new Run("count: wrong numbers", 4, 4);
        run.count(-1, 0).refused();
        run.count(9, 0).refused();
        run.count(Integer.MIN_VALUE, 0).refused();
        run.count(Integer.MAX_VALUE, 0).refused();
        for (int what = 3; what <= 8; what++) {
            run.count(what, -1).refused();
            run.count(what, 6).refused();
            run.count(what, Integer.MIN_VALUE).refused();
            run.count(what, Integer.MAX_VALUE).refused();
            run.count(what, 0).due(0);
            run.count(what, 5).due(0);
        }
        run.count(9, 6).refused();
    }

    private static void appNotLookedAt() {
        Run run = new Run("count: app not looked at", 5, 6);
        int[] apps = {0, 5, 6, -1, Integer.MIN_VALUE, Integer.MAX_VALUE};
        for (int app : apps) {
            run.count(0, app).due(5);
            run.count(1, app).due(6);
            run.count(2, app).due(0);
        }
    }

    private static void everyCount() {
        Run run = new Run("count: every count", 8, 9);
        run.openMap(0).ok();
        run.open(1, false, 0, 1).ok();
        run.takeTimes(0, 5);
        run.take(1).due(5);
        run.revoke(0, 2, 3).due(2);
        run.installFirstByte(1, 1);
        run.installAcceptAll(0);
        for (int i = 0; i < 6; i++) {
            run.arrive(2);
        }
        run.arrive(1).due(1);
        run.arrive(1).due(1);
        run.putMany(0, 0, 6);
        run.write(1, 1, 0, 8).ok();
        run.write(1, 8, 5, 8).ok();
        int[] ofAll = {2, 4, 2};
        int[] ofMap = {5, 2, 4, 3, 2, 6};
        int[] ofRaw = {1, 0, 2, 2, 1, 0};
        for (int what = 0; what < 3; what++) {
            run.count(what, 0).due(ofAll[what]);
        }
        for (int what = 3; what <= 8; what++) {
            run.count(what, 0).due(ofMap[what - 3]);
            run.count(what, 1).due(ofRaw[what - 3]);
        }
    }

    private static void closedApps() {
        Run run = new Run("count: closed apps", 8, 9);
        run.openMap(2).ok();
        run.takeTimes(2, 5);
        run.revoke(2, 1, 9).due(1);
        run.installAcceptAll(2);
        for (int i = 0; i < 5; i++) {
            run.arrive(3);
        }
        run.putMany(2, 0, 6);
        run.close(2).ok();
        run.count(0, 2).due(8);
        run.count(1, 2).due(9);
        run.count(2, 2).due(1);
        for (int what = 3; what <= 8; what++) {
            run.count(what, 2).due(0);
        }
        run.open(2, false, 0, 0).ok();
        run.count(8, 2).due(0);
    }
}
