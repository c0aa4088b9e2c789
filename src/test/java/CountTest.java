/** Promise 21: count. */
final class CountTest {
    private static final Document DOC = new Document("Promise 21: count");
    private static final int LEAST = Integer.MIN_VALUE;
    private static final int GREATEST = Integer.MAX_VALUE;
    private static final int[] ANY_APPS = {0, 5, 6, -1, LEAST, GREATEST};

    public static void main(String[] args) {
        freePages();
        freeBlocks();
        framesLost();
        appIsNotLookedAt();
        appsInRange();
        notOpen();
        pages();
        namedPages();
        frames();
        blocks();
        placeOfTheFilter();
        entries();
        elseRefused();
        DOC.end();
    }

    private static void freePages() {
        Run run = DOC.run("0: FREE pages;", 6, 4);
        run.openMaps(0, 1);
        for (int free = 6; free > 0; free--) {
            run.count(0, 0).due(free);
            run.take(free % 2).due(6 - free);
        }
        run.count(0, 0).due(0);
        run.release(1, 5).ok();
        run.count(0, 0).due(1);
        run.revoke(0, 1, 1).due(1);
        run.count(0, 0).due(1);
        run.tick(1).due(1);
        run.count(0, 0).due(2);
        run.close(0).ok();
        run.count(0, 0).due(4);
    }

    private static void freeBlocks() {
        Run run = DOC.run("1: FREE blocks;", 4, 6);
        run.count(1, 0).due(6);
        run.openRaw(0, 0, 1).ok();
        run.openMap(1).ok();
        run.count(1, 0).due(4);
        run.write(0, 0, 0, 5).ok();
        run.count(1, 0).due(3);
        run.putMany(1, 0, 4);
        run.count(1, 0).due(2);
        run.putMany(1, 4, 5);
        run.count(1, 0).due(0);
        run.drop(1, 0).ok();
        run.count(1, 0).due(1);
        run.write(0, 0, 0, -1).ok();
        run.count(1, 0).due(2);
        run.close(1).ok();
        run.count(1, 0).due(5);
    }

    private static void framesLost() {
        Run run = DOC.run("2: frames LOST since the beginning;", 4, 6);
        run.openMaps(0, 1);
        run.installFirstByte(0, 7);
        run.fillQueue(0, 7);
        run.arrive(8).refused();
        run.count(2, 0).due(0);
        for (int lost = 1; lost <= 3; lost++) {
            run.arrive(7).due(BindingKernel.LOST);
            run.count(2, 0).due(lost);
        }
        run.installAcceptAll(1);
        run.fillQueue(1, 9);
        run.arrive(9).due(BindingKernel.LOST);
        run.count(2, 0).due(4);
        run.next(0).due(3);
        run.arrive(7).due(0);
        run.close(0).ok();
        run.close(1).ok();
        run.count(2, 0).due(4);
        run.openMap(0).ok();
        run.count(2, 0).due(4);
    }

    private static void appIsNotLookedAt() {
        Run run = DOC.run("for these app is not looked at.", 5, 6);
        run.openMap(0).ok();
        run.take(0).due(0);
        run.installAcceptAll(0);
        run.fillQueue(0, 1);
        run.arrive().due(BindingKernel.LOST);
        for (int app : ANY_APPS) {
            run.count(0, app).due(4);
            run.count(1, app).due(5);
            run.count(2, app).due(1);
        }
    }

    private static void appsInRange() {
        Run run = DOC.run("Of app 0 .. 5 (open or not;", 4, 8);
        run.openMap(0).ok();
        run.openMap(5).ok();
        for (int what = 3; what <= 8; what++) {
            for (int app = 0; app < 6; app++) {
                boolean isOpen = app == 0 || app == 5;
                run.count(what, app).due(what == 6 && isOpen ? 1 : 0);
            }
            for (int app : new int[] {-1, 6, LEAST, GREATEST}) {
                run.count(what, app).refused();
            }
        }
    }

    private static void notOpen() {
        Run run = DOC.run("0 if it is not open):", 8, 9);
        run.openMap(2).ok();
        run.takeTimes(2, 5);
        run.revoke(2, 1, 9).due(1);
        run.installAcceptAll(2);
        run.fillQueue(2, 3);
        run.putMany(2, 0, 6);
        int[] held = {5, 1, 4, 3, 1, 6};
        for (int what = 3; what <= 8; what++) {
            run.count(what, 2).due(held[what - 3]);
        }
        run.close(2).ok();
        for (int what = 3; what <= 8; what++) {
            run.count(what, 2).due(0);
        }
    }

    private static void pages() {
        Run run = DOC.run("3: its pages;", 8, 4);
        run.openMaps(0, 1);
        run.takeTimes(0, 5);
        run.takeTimes(1, 2);
        run.share(0, 0, 1, 2).ok();
        run.count(3, 0).due(5);
        run.count(3, 1).due(2);
        run.revoke(0, 2, 1).due(2);
        run.count(3, 0).due(5);
        run.tick(1).due(2);
        run.count(3, 0).due(3);
        run.release(0, 0).ok();
        run.count(3, 0).due(2);
        run.count(3, 1).due(2);
    }

    private static void namedPages() {
        Run run = DOC.run("4: its NAMED pages;", 8, 4);
        run.openMaps(0, 1);
        run.takeTimes(0, 5);
        run.takeTimes(1, 3);
        run.count(4, 0).due(0);
        run.revoke(0, 3, 2).due(3);
        run.revoke(1, 3, 5).due(1);
        run.count(4, 0).due(3);
        run.count(4, 1).due(1);
        run.release(0, 4).ok();
        run.count(4, 0).due(2);
        run.take(0).due(4);
        run.count(4, 0).due(2);
        run.tick(2).due(2);
        run.count(4, 0).due(0);
        run.count(4, 1).due(1);
        namedFirstAndLastPage();
    }

    private static void namedFirstAndLastPage() {
        Run run = DOC.run("4: its NAMED pages;", 4, 4).of("the first and the last page");
        run.openMap(0).ok();
        run.takeTimes(0, 4);
        run.revoke(0, 1, 9).due(1);
        run.count(4, 0).due(1);
        run.release(0, 0).ok();
        run.take(0).due(0);
        run.revoke(0, 1, 5).due(1);
        run.count(4, 0).due(2);
        run.tick(5).due(1);
        run.holder(2, 0).due(0);
        run.count(4, 0).due(1);
    }

    private static void frames() {
        Run run = DOC.run("5: its frames;", 8, 4);
        run.openMaps(0, 1);
        run.installFirstByte(1, 1);
        run.installAcceptAll(0);
        run.count(5, 0).due(0);
        run.arrive(1).due(1);
        for (int frames = 1; frames <= 4; frames++) {
            run.arrive(2).due(0);
            run.count(5, 0).due(frames);
        }
        run.arrive(2).due(BindingKernel.LOST);
        run.count(5, 0).due(4);
        run.next(0).due(3);
        run.count(5, 0).due(3);
        run.count(5, 1).due(1);
    }

    private static void blocks() {
        Run run = DOC.run("6: its blocks;", 8, 12);
        run.openRaw(0, 0, 2).ok();
        run.openMap(1).ok();
        run.count(6, 0).due(1);
        run.count(6, 1).due(1);
        run.write(0, 0, 0, 10).ok();
        run.write(0, 10, 1, 11).ok();
        run.count(6, 0).due(3);
        run.putMany(1, 0, 5);
        run.count(6, 1).due(3);
        run.write(0, 10, 1, 9).ok();
        run.count(6, 0).due(3);
        run.write(0, 10, 1, -1).ok();
        run.count(6, 0).due(2);
        run.drop(1, 2).ok();
        run.count(6, 1).due(2);
    }

    private static void placeOfTheFilter() {
        Run run = DOC.run("7: 1 + the place of its filter in the order, from 0, or 0 without one;", 8, 12);
        run.openMaps(0, 5);
        int[] order = {4, 1, 5, 0, 3};
        for (int app : order) {
            run.count(7, app).due(0);
            run.installFirstByte(app, app);
        }
        for (int place = 0; place < 5; place++) {
            run.count(7, order[place]).due(1 + place);
        }
        run.count(7, 2).due(0);
        run.install(1).ok();
        int[] places = {3, 0, 0, 4, 1, 2};
        for (int app = 0; app < 6; app++) {
            run.count(7, app).due(places[app]);
        }
    }

    private static void entries() {
        Run run = DOC.run("8: entries of a MAP.", 8, 12);
        run.openMaps(0, 1);
        run.openRaw(2, 0, 4).ok();
        run.write(2, 2, 0, 11).ok();
        for (int entries = 0; entries < 28; entries++) {
            run.count(8, 0).due(entries);
            run.put(0, entries, 1).ok();
        }
        run.put(0, 28, 1).full();
        run.put(0, 27, 2).ok();
        run.count(8, 0).due(28);
        run.drop(0, 5).ok();
        run.count(8, 0).due(27);
        run.count(8, 1).due(0);
        run.count(8, 2).due(0);
    }

    private static void elseRefused() {
        Run run = DOC.run("Else REFUSED.", 4, 4);
        run.openMap(0).ok();
        for (int what : new int[] {-1, 9, 10, LEAST, GREATEST}) {
            for (int app : ANY_APPS) {
                run.count(what, app).refused();
            }
        }
    }
}
