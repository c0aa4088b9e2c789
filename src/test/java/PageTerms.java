/** The Terms: applications, pages and the clock. */
final class PageTerms {
    private static final String RIGHTS = "An owner may give other open applications a right to a page:"
        + " 0 none, 1 reading, 2 reading and writing;";
    private static final String GETS_FREE = "When a page gets FREE all rights to it end and it is NAMED no more.";

    private final Document doc;

    private PageTerms(Document doc) {
        this.doc = doc;
    }

    static void tryAll(Document doc) {
        PageTerms terms = new PageTerms(doc);
        terms.noneIsOpenAtFirst();
        terms.rawOrMap();
        terms.fourWords();
        terms.ownerOrNone();
        terms.rights();
        terms.rightsAreNoOwning();
        terms.ownerHasBothAlways();
        terms.freeByRelease();
        terms.freeByClosing();
        terms.freeByTheClock();
        terms.namedHasADeadline();
        terms.clockBegins();
    }

    private void noneIsOpenAtFirst() {
        Run run = doc.run("APPLICATIONS 0 .. 5 are open or not; none at first.", 4, 8);
        for (int app = 0; app < 6; app++) {
            run.close(app).refused();
            run.take(app).refused();
            run.op(app, 10, 1).refused();
            run.install(app).refused();
            run.revoke(app, 1, 1).refused();
            run.put(app, 1, 1).refused();
            run.get(app, 0).none();
            run.count(6, app).due(0);
        }
        for (int app = 0; app < 6; app++) {
            run.openMap(app).ok();
            run.install(app).ok();
        }
        for (int app = 0; app < 6; app++) {
            run.close(app).ok();
            run.install(app).refused();
        }
        run.openMap(6).refused();
        run.openMap(-1).refused();
    }

    private void rawOrMap() {
        Run run = doc.run("An open one is RAW or a MAP.", 4, 8);
        run.openRaw(0, 0, 1).ok();
        run.openMap(1).ok();
        run.write(0, 0, 5, 3).ok();
        run.put(0, 5, 3).refused();
        run.get(0, 5).due(3);
        run.write(1, 1, 5, 3).refused();
        run.put(1, 5, 4).ok();
        run.get(1, 5).due(4);
        run.close(0).ok();
        run.openMap(0).ok();
        run.write(0, 0, 5, 3).refused();
        run.put(0, 5, 6).ok();
        run.close(1).ok();
        run.openRaw(1, 0, 1).ok();
        run.put(1, 5, 4).refused();
        run.write(1, 1, 5, 3).ok();
    }

    private void fourWords() {
        for (int pages : new int[] {4, 32}) {
            Run run = doc.run("PAGES. Each of the PAGES pages has 4 words (ints)", pages, 4).of(pages + " pages");
            run.openMap(0).ok();
            run.takeTimes(0, pages);
            for (int i = 0; i < 4 * pages; i++) {
                run.store(0, i / 4, i % 4, Integer.MIN_VALUE + i).ok();
            }
            for (int i = 0; i < 4 * pages; i++) {
                run.fetch(0, i / 4, i % 4).due(Integer.MIN_VALUE + i);
            }
            run.store(0, pages - 1, 4, 1).refused();
            run.store(0, pages, 0, 1).refused();
            run.store(0, 0, -1, 1).refused();
            run.fetch(0, 0, 4).none();
            run.fetch(0, pages, 0).none();
            run.fetch(0, 1, -1).none();
        }
    }

    private void ownerOrNone() {
        Run run = doc.run("and an owner or none (then it is FREE).", 4, 4);
        run.openMaps(0, 1);
        for (int page = 0; page < 4; page++) {
            run.holder(0, page).refused();
            run.take(page % 2).due(page);
            run.holder(0, page).due(page % 2);
            run.count(0, 0).due(3 - page);
        }
        for (int page = 3; page >= 0; page--) {
            run.release(1 - page % 2, page).refused();
            run.release(page % 2, page).ok();
            run.holder(0, page).refused();
            run.count(0, 0).due(4 - page);
        }
    }

    private void rights() {
        for (int right = 0; right <= 2; right++) {
            Run run = doc.run(RIGHTS, 4, 4).of("right " + right);
            run.openMaps(0, 2);
            run.take(0).due(0);
            run.store(0, 0, 2, 5).ok();
            run.share(0, 0, 1, right).ok();
            run.fetch(1, 0, 2).due(right >= 1 ? 5 : BindingKernel.NONE);
            run.store(1, 0, 2, 6).due(right == 2 ? BindingKernel.OK : BindingKernel.REFUSED);
            run.fetch(0, 0, 2).due(right == 2 ? 6 : 5);
            run.fetch(2, 0, 2).none();
            run.share(0, 0, 3, right).refused();
            run.share(0, 0, 0, right).refused();
        }
    }

    private void rightsAreNoOwning() {
        Run run = doc.run(RIGHTS, 8, 4).of("and no more than that");
        run.openMaps(0, 2);
        run.takeTimes(0, 3);
        for (int page = 0; page < 3; page++) {
            run.share(0, page, 1, 2).ok();
        }
        run.release(1, 0).refused();
        run.share(1, 0, 2, 1).refused();
        run.share(1, 0, 1, 0).refused();
        run.revoke(1, 1, 1).due(0);
        run.count(3, 1).due(0);
        run.holder(0, 0).due(0);
    }

    private void ownerHasBothAlways() {
        Run run = doc.run("the owner has both always.", 4, 4);
        run.openMaps(0, 1);
        run.takeTimes(0, 3);
        int value = 1;
        for (int right = 2; right >= 0; right--) {
            run.share(0, 0, 0, right).refused();
            run.share(0, 0, 1, right).ok();
            run.store(0, 0, 0, value).ok();
            run.fetch(0, 0, 0).due(value);
            value++;
        }
        run.share(0, 2, 1, 2).ok();
        run.revoke(0, 1, 20).due(1);
        run.store(0, 2, 0, 7).ok();
        run.fetch(0, 2, 0).due(7);
        run.tick(19).due(0);
        run.store(0, 2, 0, 8).ok();
        run.fetch(0, 2, 0).due(8);
        run.close(1).ok();
        run.fetch(0, 2, 0).due(8);
    }

    /** Applications 1 and 5 have rights to page 3 of application 0, which is NAMED, and so are its pages 4 and 5. */
    private Run withRightsAndNames(String how) {
        Run run = doc.run(GETS_FREE, 6, 6).of(how);
        run.openMaps(0, 5);
        run.takeTimes(0, 6);
        run.share(0, 3, 1, 1).ok();
        run.share(0, 3, 5, 2).ok();
        run.revoke(0, 3, 4).due(3);
        run.fetch(1, 3, 0).due(0);
        run.store(5, 3, 0, 1).ok();
        return run;
    }

    private void freeByRelease() {
        Run run = withRightsAndNames("by release");
        run.release(0, 3).ok();
        run.count(4, 0).due(2);
        rightsEndedAt3(run);
        run.tick(4).due(2);
        run.holder(0, 3).due(2);
        run.count(4, 2).due(0);
        run.holder(4, 0).refused();
    }

    private void freeByClosing() {
        Run run = withRightsAndNames("by closing");
        run.close(0).ok();
        run.takeTimes(3, 3);
        rightsEndedAt3(run);
        run.take(2).due(4);
        run.take(2).due(5);
        run.count(4, 2).due(0);
        run.tick(100).due(0);
        run.count(3, 2).due(3);
    }

    private void freeByTheClock() {
        Run run = withRightsAndNames("by the clock");
        run.tick(4).due(3);
        rightsEndedAt3(run);
        run.count(4, 0).due(0);
        run.count(4, 2).due(0);
        run.take(2).due(4);
        run.take(2).due(5);
        run.tick(100).due(0);
        run.revoke(2, 8, 1).due(1);
    }

    private void rightsEndedAt3(Run run) {
        run.fetch(1, 3, 0).none();
        run.fetch(5, 3, 0).none();
        run.take(2).due(3);
        for (int app = 0; app < 6; app++) {
            run.fetch(app, 3, 0).due(app == 2 ? 0 : BindingKernel.NONE);
            if (app != 2) {
                run.store(app, 3, 0, 9).refused();
            }
        }
    }

    private void namedHasADeadline() {
        Run run = doc.run("A page is NAMED if a revocation named it; it has a deadline then.", 8, 4);
        run.openMap(0).ok();
        run.takeTimes(0, 6);
        run.tick(100).due(0);
        run.count(4, 0).due(0);
        run.revoke(0, 2, 3).due(2);
        run.count(4, 0).due(2);
        run.take(0).due(6);
        run.share(0, 0, 1, 1).refused();
        run.count(4, 0).due(2);
        run.tick(2).due(0);
        run.count(4, 0).due(2);
        run.tick(1).due(2);
        run.count(4, 0).due(0);
        run.holder(0, 5).refused();
        run.holder(0, 4).refused();
        run.holder(0, 6).due(0);
    }

    /** The time itself cannot be asked for; that deadlines are told from the beginning on can. */
    private void clockBegins() {
        Run run = doc.run("THE CLOCK begins at 0.", 8, 4);
        run.openMap(0).ok();
        run.takeTimes(0, 4);
        run.revoke(0, 1, 20).due(1);
        run.revoke(0, 1, 1).due(1);
        run.tick(1).due(1);
        run.holder(2, 0).due(2);
        run.tick(18).due(0);
        run.tick(1).due(1);
        run.holder(2, 0).due(3);
    }
}
