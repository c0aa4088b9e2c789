/** Promise 18: put. */
final class PutTest {
    public static void main(String[] args) {
        wrongApps();
        changesAnEntry();
        blocksAsNeeded();
        twentyEightAtMost();
        noBlockIsFree();
        removing();
        lastTakesThePlace();
        everyRemoval();
        tablesAreApart();
        Run.end();
    }

    private static void wrongApps() {
        Run run = new Run("put: wrong apps", 4, 4);
        run.put(0, 1, 1).refused();
        run.open(0, false, 0, 1).ok();
        run.openMap(1).ok();
        run.put(0, 1, 1).refused();
        run.drop(0, 1).refused();
        run.put(-1, 1, 1).refused();
        run.put(6, 1, 1).refused();
        run.put(2, 1, 1).refused();
        run.count(1, 0).due(2);
    }

    private static void changesAnEntry() {
        Run run = new Run("put: changes an entry", 4, 4);
        run.openMap(0).ok();
        run.put(0, Integer.MIN_VALUE, Integer.MAX_VALUE).ok();
        run.put(0, Integer.MAX_VALUE, Integer.MIN_VALUE).ok();
        run.put(0, 0, -1).ok();
        run.put(0, -1, 0).ok();
        run.get(0, Integer.MIN_VALUE).due(Integer.MAX_VALUE);
        run.get(0, Integer.MAX_VALUE).due(Integer.MIN_VALUE);
        run.get(0, 0).due(-1);
        run.get(0, -1).due(0);
        run.put(0, 0, 5).ok();
        run.get(0, 0).due(5);
        run.count(8, 0).due(4);
        run.count(6, 0).due(2);
    }

    private static void blocksAsNeeded() {
        Run run = new Run("put: blocks as needed", 4, 8);
        run.openMap(0).ok();
        run.open(1, false, 0, 1).ok();
        run.write(1, 1, 0, 3).ok();
        run.count(6, 0).due(1);
        run.putMany(0, 0, 1);
        run.holder(1, 2).due(0);
        run.putMany(0, 1, 3);
        run.count(6, 0).due(2);
        run.putMany(0, 4, 1);
        run.count(6, 0).due(3);
        run.holder(1, 4).due(0);
        run.putMany(0, 5, 3);
        run.count(6, 0).due(3);
        run.write(1, 1, 0, -1).ok();
        run.putMany(0, 8, 1);
        run.holder(1, 3).due(0);
        for (int key = 0; key < 9; key++) {
            run.get(0, key).due(key * 10);
        }
    }

    private static void twentyEightAtMost() {
        Run run = new Run("put: twenty-eight at most", 4, 32);
        run.openMap(0).ok();
        run.putMany(0, 0, 28);
        run.count(8, 0).due(28);
        run.count(6, 0).due(8);
        run.put(0, 28, 1).full();
        run.get(0, 28).none();
        run.put(0, 27, 1).ok();
        run.get(0, 27).due(1);
        run.drop(0, 3).ok();
        run.put(0, 28, 1).ok();
        run.put(0, 3, 1).full();
        run.count(8, 0).due(28);
    }

    private static void noBlockIsFree() {
        Run run = new Run("put: no block is free", 4, 4);
        run.openMap(0).ok();
        run.openMap(1).ok();
        run.putMany(0, 0, 8);
        run.put(0, 8, 1).full();
        run.put(1, 8, 1).full();
        run.count(8, 0).due(8);
        run.count(8, 1).due(0);
        run.put(0, 7, 1).ok();
        run.drop(0, 0).ok();
        run.put(0, 8, 1).ok();
        run.put(0, 9, 1).full();
        run.close(1).ok();
        run.put(0, 9, 1).ok();
        run.holder(1, 1).due(0);
    }

    private static void removing() {
        Run run = new Run("put: removing", 4, 8);
        run.openMap(0).ok();
        run.drop(0, 1).refused();
        run.putMany(0, 0, 5);
        run.drop(0, 5).refused();
        run.holder(1, 2).due(0);
        run.drop(0, 1).ok();
        run.holder(1, 2).refused();
        run.count(6, 0).due(2);
        run.get(0, 1).none();
        run.get(0, 4).due(40);
        run.drop(0, 1).refused();
        run.drop(0, 4).ok();
        run.drop(0, 0).ok();
        run.drop(0, 3).ok();
        run.count(6, 0).due(2);
        run.put(0, 2, 99, false).ok();
        run.count(6, 0).due(1);
        run.count(8, 0).due(0);
        run.holder(1, 0).due(0);
        run.get(0, 2).none();
        run.put(0, 2, 7).ok();
        run.get(0, 2).due(7);
    }

    private static void lastTakesThePlace() {
        Run run = new Run("put: the last takes the place", 4, 8);
        run.openMap(0).ok();
        run.putMany(0, 0, 9);
        run.holder(1, 3).due(0);
        run.drop(0, 0).ok();
        run.holder(1, 3).refused();
        run.openMap(1).ok();
        run.put(1, 500, 501).ok();
        run.get(0, 8).due(80);
        for (int key = 1; key < 9; key++) {
            run.get(0, key).due(key * 10);
        }
        run.count(8, 0).due(8);
    }

    private static void everyRemoval() {
        for (int size = 1; size <= 28; size++) {
            for (int dropped = 0; dropped < size; dropped++) {
                Run run = new Run("put: " + dropped + " of " + size, 4, 9);
                run.openMap(0).ok();
                run.putMany(0, 0, size);
                run.drop(0, dropped).ok();
                for (int key = 0; key < size; key++) {
                    run.get(0, key).due(key == dropped ? BindingKernel.NONE : key * 10);
                }
                run.count(6, 0).due(1 + (size - 1 + 3) / 4);
                run.count(8, 0).due(size - 1);
            }
        }
    }

    private static void tablesAreApart() {
        Run run = new Run("put: tables are apart", 4, 8);
        run.openMap(0).ok();
        run.openMap(1).ok();
        run.putMany(0, 0, 4);
        run.put(1, 0, 5).ok();
        run.put(1, 4, 6).ok();
        run.get(0, 0).due(0);
        run.get(1, 0).due(5);
        run.get(0, 4).none();
        run.drop(1, 3).refused();
        run.drop(1, 0).ok();
        run.get(0, 0).due(0);
        run.get(1, 4).due(6);
    }
}
