/** Promise 18: put. */
final class PutTest {
    private static final Document DOC = new Document("Promise 18: put");
    private static final String THERE = "present: there is an entry of the key (any int): it gets the value: OK.";
    private static final String NEEDS_BLOCK = "or it needs a new data block and no block is FREE: FULL.";
    private static final String LEAST_FREE = "(in the least FREE block, if it needs one): OK.";
    private static final String LAST_MOVES = "Else the last entry takes its place in the order"
        + " (unless it is the last), the last place is gone,";
    private static final String BLOCK_IS_FREE = "and a data block that is not needed any more is FREE: OK.";
    private static final int LEAST = Integer.MIN_VALUE;
    private static final int GREATEST = Integer.MAX_VALUE;

    public static void main(String[] args) {
        notAMap();
        anyKeyAndValue();
        getsTheValue();
        getsTheValueThoughAllIsFull();
        twentyEightEntries();
        noBlockIsFree();
        needsNoBlock();
        anEntryAtTheEnd();
        inTheLeastFreeBlock();
        noEntryOfTheKey();
        everyRemoval();
        lastTakesThePlace();
        valueOfARemovalIsNotLookedAt();
        blockIsFree();
        blockOfTheLastEntriesIsFree();
        tablesAreApart();
        DOC.end();
    }

    private static void notAMap() {
        Run run = DOC.run("MAP: app is not a MAP: REFUSED.", 4, 4);
        run.put(0, 1, 1).refused();
        run.openRaw(0, 0, 1).ok();
        run.openMap(1).ok();
        run.put(0, 1, 1).refused();
        run.drop(0, 1).refused();
        run.drop(0, 0).refused();
        for (int app : new int[] {-1, 6, 2, LEAST, GREATEST}) {
            run.put(app, 1, 1).refused();
            run.drop(app, 1).refused();
        }
        run.count(1, 0).due(2);
        run.count(8, 0).due(0);
        run.put(1, 1, 1).ok();
        run.openMap(2).ok();
        run.put(0, 1, 1).refused();
        run.put(3, 1, 1).refused();
        run.close(1).ok();
        run.put(1, 1, 1).refused();
    }

    private static void anyKeyAndValue() {
        Run run = DOC.run(THERE, 4, 4).of("any int");
        run.openMap(0).ok();
        int[] keys = {LEAST, -1, 0, GREATEST};
        for (int key : keys) {
            run.put(0, key, ~key).ok();
        }
        for (int key : keys) {
            run.get(0, key).due(~key);
            run.put(0, key, key).ok();
            run.get(0, key).due(key);
        }
        run.count(8, 0).due(4);
    }

    private static void getsTheValue() {
        Run run = DOC.run(THERE, 4, 9);
        run.openMap(0).ok();
        run.putMany(0, 0, 28);
        for (int changed = 0; changed < 28; changed += 3) {
            run.put(0, changed, -changed).ok();
            run.count(8, 0).due(28);
            run.count(6, 0).due(8);
        }
        for (int key = 0; key < 28; key++) {
            run.get(0, key).due(key % 3 == 0 ? -key : key * 10);
        }
    }

    private static void getsTheValueThoughAllIsFull() {
        Run run = DOC.run(THERE, 4, 8).of("28 entries and no FREE block");
        run.openMap(0).ok();
        run.putMany(0, 0, 28);
        run.count(1, 0).due(0);
        run.put(0, 27, 5).ok();
        run.get(0, 27).due(5);
        run.put(0, 0, 6).ok();
        run.get(0, 0).due(6);
        Run four = DOC.run(THERE, 4, 4).of("just as many as the blocks hold, and no FREE block");
        four.openMaps(0, 2);
        four.putMany(0, 0, 4);
        four.put(0, 3, 5).ok();
        four.get(0, 3).due(5);
    }

    private static void twentyEightEntries() {
        Run run = DOC.run("Else there are 28 entries,", 4, 32);
        run.openMap(0).ok();
        run.putMany(0, 0, 27);
        run.put(0, 27, 270).ok();
        run.count(8, 0).due(28);
        run.count(6, 0).due(8);
        run.put(0, 28, 1).full();
        run.put(0, -1, 1).full();
        run.get(0, 28).none();
        run.count(8, 0).due(28);
        run.count(1, 0).due(24);
        run.drop(0, 3).ok();
        run.put(0, 28, 1).ok();
        run.put(0, 3, 1).full();
        run.count(8, 0).due(28);
    }

    private static void noBlockIsFree() {
        Run run = DOC.run(NEEDS_BLOCK, 4, 4);
        run.openMaps(0, 1);
        run.putMany(0, 0, 8);
        run.count(1, 0).due(0);
        run.put(0, 8, 1).full();
        run.put(1, 8, 1).full();
        run.count(8, 0).due(8);
        run.count(8, 1).due(0);
        run.get(0, 8).none();
        run.get(1, 8).none();
        run.close(1).ok();
        run.put(0, 8, 1).ok();
        run.holder(1, 1).due(0);
    }

    private static void needsNoBlock() {
        Run run = DOC.run(NEEDS_BLOCK, 4, 4).of("it needs none");
        run.openMaps(0, 2);
        run.put(0, 0, 0).ok();
        run.count(1, 0).due(0);
        run.putMany(0, 1, 3);
        run.put(0, 4, 4).full();
        run.drop(0, 0).ok();
        run.count(1, 0).due(0);
        run.put(0, 4, 4).ok();
        run.put(0, 0, 0).full();
    }

    private static void anEntryAtTheEnd() {
        Run run = DOC.run("Else an entry at the end", 4, 9);
        run.openMap(0).ok();
        for (int entries = 1; entries <= 28; entries++) {
            run.put(0, -entries, entries).ok();
            run.count(8, 0).due(entries);
            run.count(6, 0).due(1 + (entries + 3) / 4);
        }
        for (int entries = 1; entries <= 28; entries++) {
            run.get(0, -entries).due(entries);
        }
    }

    private static void inTheLeastFreeBlock() {
        Run run = DOC.run(LEAST_FREE, 4, 8);
        run.openMap(0).ok();
        run.openRaw(1, 0, 1).ok();
        run.write(1, 1, 0, 3).ok();
        run.put(0, 0, 0).ok();
        run.holder(1, 2).due(0);
        run.putMany(0, 1, 3);
        run.count(6, 0).due(2);
        run.put(0, 4, 40).ok();
        run.holder(1, 4).due(0);
        run.putMany(0, 5, 3);
        run.count(6, 0).due(3);
        run.write(1, 1, 0, -1).ok();
        run.put(0, 8, 80).ok();
        run.holder(1, 3).due(0);
        run.holder(1, 5).refused();
        for (int key = 0; key < 9; key++) {
            run.get(0, key).due(key * 10);
        }
    }

    private static void noEntryOfTheKey() {
        Run run = DOC.run("Not present: no entry of the key: REFUSED.", 4, 8);
        run.openMap(0).ok();
        run.drop(0, 0).refused();
        run.drop(0, 1).refused();
        run.putMany(0, 1, 5);
        for (int key : new int[] {0, 6, -1, LEAST, GREATEST}) {
            run.drop(0, key).refused();
            run.put(0, key, 10, false).refused();
        }
        run.count(8, 0).due(5);
        run.count(6, 0).due(3);
        run.drop(0, 5).ok();
        run.drop(0, 5).refused();
        run.count(8, 0).due(4);
    }

    private static void everyRemoval() {
        for (int size = 1; size <= 28; size++) {
            for (int dropped = 0; dropped < size; dropped++) {
                Run run = DOC.run(LAST_MOVES, 4, 9).of(dropped + " of " + size);
                run.openMap(0).ok();
                run.putMany(0, 0, size);
                run.drop(0, dropped).ok();
                for (int key = 0; key < size; key++) {
                    run.get(0, key).due(key == dropped ? BindingKernel.NONE : key * 10);
                }
                run.count(6, 0).due(1 + (size - 1 + 3) / 4);
                run.count(8, 0).due(size - 1);
            }
        }
    }

    /** Which entries lie in a block that is given to another must be none that are left. */
    private static void lastTakesThePlace() {
        Run run = DOC.run(LAST_MOVES, 4, 8).of("and leaves its block");
        run.openMap(0).ok();
        run.putMany(0, 0, 9);
        run.drop(0, 0).ok();
        run.holder(1, 3).refused();
        run.openMap(1).ok();
        run.holder(1, 3).due(1);
        run.putMany(1, 500, 5);
        run.drop(0, 8).ok();
        run.get(0, 7).due(70);
        run.putMany(0, 8, 2);
        for (int key = 1; key < 10; key++) {
            run.get(0, key).due(key * 10);
        }
        run.count(8, 0).due(9);
    }

    private static void valueOfARemovalIsNotLookedAt() {
        Run run = DOC.run(LAST_MOVES, 4, 8).of("whatever the value");
        run.openMap(0).ok();
        run.putMany(0, 0, 4);
        run.put(0, 0, 99, false).ok();
        run.put(0, 1, LEAST, false).ok();
        run.put(0, 2, 20, false).ok();
        run.count(8, 0).due(1);
        run.get(0, 3).due(30);
    }

    private static void blockIsFree() {
        Run run = DOC.run(BLOCK_IS_FREE, 4, 8);
        run.openMap(0).ok();
        run.putMany(0, 0, 6);
        run.holder(1, 2).due(0);
        run.drop(0, 1).ok();
        run.holder(1, 2).due(0);
        run.drop(0, 0).ok();
        run.holder(1, 2).refused();
        run.holder(1, 1).due(0);
        run.count(6, 0).due(2);
        run.drop(0, 5).ok();
        run.drop(0, 4).ok();
        run.drop(0, 3).ok();
        run.count(6, 0).due(2);
        run.drop(0, 2).ok();
        run.count(6, 0).due(1);
        run.count(8, 0).due(0);
        run.holder(1, 1).refused();
        run.holder(1, 0).due(0);
        run.count(1, 0).due(7);
        run.put(0, 2, 7).ok();
        run.get(0, 2).due(7);
        run.holder(1, 1).due(0);
    }

    private static void blockOfTheLastEntriesIsFree() {
        Run run = DOC.run(BLOCK_IS_FREE, 4, 12).of("data blocks that are not in the order of numbers");
        run.openMap(0).ok();
        run.openRaw(1, 0, 8).ok();
        for (int word = 0; word < 3; word++) {
            run.write(1, 1, word, 2 + word).ok();
        }
        run.putMany(0, 0, 4);
        run.holder(1, 5).due(0);
        run.write(1, 1, 1, -1).ok();
        run.putMany(0, 4, 4);
        run.holder(1, 3).due(0);
        run.write(1, 1, 2, -1).ok();
        run.putMany(0, 8, 1);
        run.holder(1, 4).due(0);
        run.drop(0, 0).ok();
        run.holder(1, 4).refused();
        for (int key = 1; key <= 4; key++) {
            run.holder(1, 3).due(0);
            run.drop(0, key).ok();
        }
        run.holder(1, 3).refused();
        run.holder(1, 5).due(0);
        run.count(8, 0).due(4);
        for (int key = 5; key <= 8; key++) {
            run.get(0, key).due(10 * key);
        }
    }

    private static void tablesAreApart() {
        Run run = DOC.run("Else an entry at the end", 4, 16).of("of each map");
        run.openMaps(0, 5);
        for (int app = 0; app < 6; app++) {
            run.put(app, 7, 100 + app).ok();
            run.put(app, 10 + app, app).ok();
        }
        run.drop(3, 7).ok();
        for (int app = 0; app < 6; app++) {
            run.get(app, 7).due(app == 3 ? BindingKernel.NONE : 100 + app);
            run.get(app, 10 + app).due(app);
            run.get(app, 10 + (app + 1) % 6).none();
            run.count(8, app).due(app == 3 ? 1 : 2);
        }
    }
}
