/** Promise 19: get. */
final class GetTest {
    private static final Document DOC = new Document("Promise 19: get");
    private static final String RAW_WORD = "RAW: word key modulo 8 of block key divided by 8,";
    private static final String OWN_BLOCK = "and the block is app's own; else NONE.";
    private static final int LEAST = Integer.MIN_VALUE;
    private static final int GREATEST = Integer.MAX_VALUE;

    public static void main(String[] args) {
        entriesOfAMap();
        noEntryOfTheKey();
        wrongApps();
        wordsOfRaw();
        keysInRange();
        notItsOwn();
        DOC.end();
    }

    private static void entriesOfAMap() {
        Run run = DOC.run("MAP: the value of the entry of the key,", 4, 9);
        run.openMap(0).ok();
        int[] keys = {5, LEAST, GREATEST, -1, 0, 8, 63, 64, 255};
        for (int i = 0; i < keys.length; i++) {
            run.put(0, keys[i], i - 4).ok();
        }
        for (int i = 0; i < keys.length; i++) {
            run.get(0, keys[i]).due(i - 4);
        }
        run.put(0, 5, LEAST).ok();
        run.get(0, 5).due(LEAST);
        run.put(0, 5, GREATEST).ok();
        run.get(0, 5).due(GREATEST);
    }

    private static void noEntryOfTheKey() {
        Run run = DOC.run("NONE if there is none.", 4, 4);
        run.openMap(0).ok();
        for (int key : new int[] {LEAST, -1, 0, 1, 8, GREATEST}) {
            run.get(0, key).none();
        }
        run.put(0, 5, 8).ok();
        for (int key : new int[] {LEAST, -1, 0, 4, 6, 8, 9, GREATEST}) {
            run.get(0, key).none();
        }
        run.drop(0, 5).ok();
        run.get(0, 5).none();
    }

    private static void wrongApps() {
        Run run = DOC.run("NONE if there is none.", 4, 4).of("wrong apps");
        run.openMap(1).ok();
        run.put(1, 0, 4).ok();
        run.openRaw(0, 0, 0).ok();
        for (int app : new int[] {-1, 6, 2, 5, LEAST, GREATEST}) {
            run.get(app, 0).none();
        }
        run.close(0).ok();
        run.close(1).ok();
        run.get(0, 16).none();
        run.get(1, 0).none();
    }

    private static void wordsOfRaw() {
        Run run = DOC.run(RAW_WORD, 4, 32);
        run.openRaw(0, 7, 1).ok();
        run.write(0, 0, 7, 1).ok();
        run.write(0, 1, 7, 6).ok();
        run.write(0, 6, 7, 31).ok();
        int[] blocks = {0, 1, 6, 31};
        for (int block : blocks) {
            for (int word = 0; word < 7; word++) {
                run.write(0, block, word, 100 * block - word).ok();
            }
        }
        for (int block : blocks) {
            for (int word = 0; word < 7; word++) {
                run.get(0, 8 * block + word).due(100 * block - word);
            }
        }
        run.get(0, 7).due(1);
        run.get(0, 15).due(6);
        run.get(0, 55).due(31);
        run.get(0, 255).due(-1);
        run.write(0, 0, 0, LEAST).ok();
        run.get(0, 0).due(LEAST);
        run.write(0, 0, 0, GREATEST).ok();
        run.get(0, 0).due(GREATEST);
    }

    private static void keysInRange() {
        for (int size : new int[] {4, 5, 32}) {
            Run run = DOC.run("if key is 0 .. 8 BLOCKS - 1", 4, size).of(size + " blocks");
            run.openRaw(0, 0, 1).ok();
            run.write(0, 0, 0, size - 1).ok();
            run.write(0, 0, 7, 55).ok();
            run.write(0, size - 1, 0, -1).ok();
            run.write(0, size - 1, 7, 123).ok();
            run.get(0, 0).due(size - 1);
            run.get(0, 8 * size - 1).due(123);
            for (int key : new int[] {8 * size, 8 * size + 1, 8 * size + 7, 257, 1 << 30, GREATEST}) {
                run.get(0, key).none();
            }
            for (int key : new int[] {-1, -2, -7, -8, -9, LEAST, LEAST + 7}) {
                run.get(0, key).none();
            }
        }
    }

    private static void notItsOwn() {
        Run run = DOC.run(OWN_BLOCK, 4, 8);
        run.openMap(1).ok();
        run.put(1, 3, 3).ok();
        run.openRaw(0, 0, 1).ok();
        run.openRaw(2, 0, 1).ok();
        run.write(2, 3, 0, 5).ok();
        for (int word = 0; word < 8; word++) {
            run.get(0, word).none();
            run.get(0, 8 + word).none();
            run.get(0, 24 + word).none();
            run.get(0, 40 + word).none();
            run.get(0, 48 + word).none();
            run.get(0, 16 + word).due(word == 0 ? -1 : 0);
        }
        run.write(0, 2, 0, 6).ok();
        run.get(0, 49).due(0);
        run.write(0, 2, 0, -1).ok();
        run.get(0, 49).none();
    }
}
