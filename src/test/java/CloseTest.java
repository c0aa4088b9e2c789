/** Promise 3: close. */
final class CloseTest {
    private static final Document DOC = new Document("Promise 3: close");

    public static void main(String[] args) {
        onlyAnOpenOneIsClosed();
        pagesAreFree();
        blocksOfRawAreFree();
        blocksOfMapAreFree();
        rightsToOthersPagesEnd();
        filterIsGone();
        framesAreGone();
        draftIsGone();
        othersKeepWhatTheyHave();
        listStays();
        DOC.end();
    }

    private static void onlyAnOpenOneIsClosed() {
        Run run = DOC.run("Closes app:", 4, 6);
        for (int app : new int[] {-1, 6, Integer.MIN_VALUE, Integer.MAX_VALUE, 0, 5}) {
            run.close(app).refused();
        }
        run.openMaps(0, 5);
        for (int app = 0; app < 6; app++) {
            run.close(app).ok();
            run.close(app).refused();
            run.take(app).refused();
        }
        run.openMap(5).ok();
        run.take(5).due(0);
    }

    private static void pagesAreFree() {
        Run run = DOC.run("its pages and blocks are FREE,", 6, 4).of("pages");
        run.openMaps(0, 1);
        run.takeTimes(0, 4);
        run.take(1).due(4);
        run.take(0).due(5);
        run.share(0, 0, 1, 2).ok();
        run.revoke(0, 1, 5).due(1);
        run.close(0).ok();
        run.count(0, 0).due(5);
        run.count(3, 0).due(0);
        run.count(4, 0).due(0);
        for (int page = 0; page < 6; page++) {
            run.holder(0, page).due(page == 4 ? 1 : BindingKernel.REFUSED);
        }
        run.fetch(1, 0, 0).none();
        run.openMap(0).ok();
        run.takeTimes(0, 5);
        run.fetch(1, 0, 0).none();
        run.count(4, 0).due(0);
        run.tick(100).due(0);
        run.holder(2, 0).refused();
    }

    private static void blocksOfRawAreFree() {
        Run run = DOC.run("its pages and blocks are FREE,", 4, 8).of("blocks of RAW");
        run.openRaw(0, 0, 2).ok();
        run.openMap(1).ok();
        run.write(0, 0, 0, 5).ok();
        run.write(0, 5, 1, 7).ok();
        run.count(1, 0).due(4);
        run.close(0).ok();
        run.count(1, 0).due(7);
        run.count(6, 0).due(0);
        for (int block = 0; block < 8; block++) {
            run.holder(1, block).due(block == 1 ? 1 : BindingKernel.REFUSED);
        }
        run.get(0, 0).none();
        run.openRaw(2, 0, 1).ok();
        run.write(2, 0, 0, 7).ok();
        run.get(2, 56).due(-1);
        run.get(2, 57).due(0);
    }

    private static void blocksOfMapAreFree() {
        Run run = DOC.run("its pages and blocks are FREE,", 4, 8).of("blocks of a MAP");
        run.openMap(1).ok();
        run.openRaw(0, 0, 1).ok();
        run.putMany(1, 0, 9);
        run.count(1, 0).due(3);
        run.close(1).ok();
        run.count(1, 0).due(7);
        run.count(6, 1).due(0);
        run.count(8, 1).due(0);
        for (int block = 0; block < 8; block++) {
            run.holder(1, block).due(block == 1 ? 0 : BindingKernel.REFUSED);
        }
        run.get(1, 0).none();
        run.write(0, 1, 0, 4).ok();
    }

    private static void rightsToOthersPagesEnd() {
        Run run = DOC.run("the rights that it had to others' pages end,", 6, 4);
        run.openMaps(0, 2);
        run.takeTimes(1, 2);
        run.take(2).due(2);
        run.share(1, 0, 0, 2).ok();
        run.share(1, 1, 0, 1).ok();
        run.share(2, 2, 0, 2).ok();
        run.share(1, 0, 2, 2).ok();
        run.close(0).ok();
        run.openMap(0).ok();
        for (int page = 0; page < 3; page++) {
            run.fetch(0, page, 0).none();
            run.store(0, page, 0, 1).refused();
        }
        run.store(2, 0, 0, 4).ok();
        run.fetch(1, 0, 0).due(4);
        run.share(1, 0, 0, 1).ok();
        run.fetch(0, 0, 0).due(4);
    }

    private static void filterIsGone() {
        Run run = DOC.run("its filter, frames and draft are gone.", 4, 8).of("filter");
        run.openMaps(0, 2);
        run.installFirstByte(0, 9);
        run.installAcceptAll(1);
        run.installAcceptAll(2);
        run.close(0).ok();
        run.count(7, 0).due(0);
        run.count(7, 1).due(1);
        run.count(7, 2).due(2);
        run.arrive(9).due(1);
        run.close(2).ok();
        run.count(7, 1).due(1);
        run.close(1).ok();
        run.arrive(9).refused();
    }

    private static void framesAreGone() {
        Run run = DOC.run("its filter, frames and draft are gone.", 4, 8).of("frames");
        run.openMaps(0, 1);
        run.installFirstByte(0, 9);
        run.installAcceptAll(1);
        run.fillQueue(0, 9);
        run.arrive(8).due(1);
        run.close(0).ok();
        run.count(5, 0).due(0);
        run.got(0, -1).refused();
        run.next(0).refused();
        run.count(5, 1).due(1);
        run.openMap(0).ok();
        run.count(5, 0).due(0);
        run.got(0, 0).refused();
        run.next(0).refused();
    }

    private static void draftIsGone() {
        Run run = DOC.run("its filter, frames and draft are gone.", 4, 8).of("draft");
        run.openMaps(0, 1);
        run.op(0, 10, 1).due(0);
        run.op(1, 10, 1).due(0);
        run.close(0).ok();
        run.op(0, 10, 1).refused();
        run.openMap(0).ok();
        run.install(0).ok();
        run.count(7, 0).due(0);
        run.op(0, 10, 1).due(0);
        run.op(1, 10, 1).due(1);
    }

    private static void othersKeepWhatTheyHave() {
        Run run = DOC.run("OK.", 6, 8);
        run.openMaps(0, 1);
        run.openRaw(2, 0, 1).ok();
        run.take(1).due(0);
        run.take(0).due(1);
        run.share(1, 0, 2, 1).ok();
        run.store(1, 0, 3, 33).ok();
        run.write(2, 2, 0, 7).ok();
        run.put(1, 5, 55).ok();
        run.installAcceptAll(1);
        run.arrive(3, 4).due(1);
        run.push(6).due(1);
        run.close(0).ok();
        run.fetch(1, 0, 3).due(33);
        run.fetch(2, 0, 3).due(33);
        run.get(2, 16).due(7);
        run.get(1, 5).due(55);
        run.got(1, 1).due(4);
        run.push(6).due(2);
        run.arrive().due(1);
    }

    private static void listStays() {
        Run run = DOC.run("OK.", 8, 4).of("the list is not among what ends");
        run.openMap(3).ok();
        run.takeTimes(3, 4);
        run.revoke(3, 2, 1).due(2);
        run.tick(1).due(2);
        run.close(3).ok();
        run.holder(5, 0).due(3);
        run.holder(5, 1).due(2);
        run.openMaps(0, 2);
        run.openMap(4).ok();
        run.openMap(3).full();
        run.holder(5, 1).due(2);
        run.close(4).ok();
        run.openMap(3).ok();
        run.holder(5, 0).refused();
    }
}
