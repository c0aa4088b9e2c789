/** The Terms: blocks, the layout of RAW applications and the entries of maps. */
final class BlockTerms {
    private static final String NEW_BLOCK = "A new block's LINK words hold -1, its others 0.";
    private static final String ROOT = "An open application has a root block, and all its blocks hang on it.";
    private static final String DATA_BLOCKS = "Entries 4 j .. 4 j + 3 lie in its data block j;"
        + " it has just as many data blocks as its entries need.";
    private static final int TAKEN = BindingKernel.TAKEN;

    private final Document doc;

    private BlockTerms(Document doc) {
        this.doc = doc;
    }

    static void tryAll(Document doc) {
        BlockTerms terms = new BlockTerms(doc);
        terms.eightWords();
        terms.applicationOrNone();
        terms.rootStays();
        terms.closingTakesAllThatHangsOnTheRoot();
        terms.layout();
        terms.newRoot();
        terms.newLinkedBlock();
        terms.namedByExactlyOneLink();
        terms.entriesInOrder();
        terms.dataBlocksAsNeeded();
        terms.leastFreeWhereOneIsChosen();
    }

    private void eightWords() {
        Run run = doc.run("BLOCKS. Each of the BLOCKS blocks has 8 words (ints)", 4, 9);
        run.openRaw(0, 0, 8).ok();
        for (int word = 0; word < 8; word++) {
            run.write(0, 0, word, 1 + word).ok();
        }
        run.openRaw(1, 0, 1).full();
        run.close(0).ok();
        run.openRaw(1, 0, 0).ok();
        for (int word = 0; word < 8; word++) {
            run.write(1, 0, word, Integer.MIN_VALUE + word).ok();
        }
        for (int word = 0; word < 8; word++) {
            run.get(1, word).due(Integer.MIN_VALUE + word);
        }
        run.write(1, 0, 8, 1).refused();
        run.write(1, 0, -1, 1).refused();
        run.get(1, 8).none();
        run.get(1, -1).none();
    }

    private void applicationOrNone() {
        Run run = doc.run("and belongs to an application or to none (then it is FREE).", 4, 5);
        for (int block = 0; block < 5; block++) {
            run.holder(1, block).refused();
        }
        run.openRaw(0, 0, 2).ok();
        run.openMap(1).ok();
        run.write(0, 0, 0, 4).ok();
        run.put(1, 1, 1).ok();
        int[] owners = {0, 1, 1, -1, 0};
        for (int block = 0; block < 5; block++) {
            run.holder(1, block).due(owners[block]);
        }
        run.count(1, 0).due(1);
        run.write(0, 0, 0, -1).ok();
        run.drop(1, 1).ok();
        run.count(1, 0).due(3);
        run.holder(1, 4).refused();
        run.holder(1, 2).refused();
    }

    private void rootStays() {
        Run run = doc.run(ROOT, 4, 6).of("the root stays");
        run.openRaw(0, 0, 8).ok();
        run.openMap(1).ok();
        run.write(0, 0, 0, 0).due(TAKEN);
        run.write(0, 0, 0, 2).ok();
        run.write(0, 2, 0, 0).due(TAKEN);
        run.write(0, 0, 0, -1).ok();
        run.count(6, 0).due(1);
        run.holder(1, 0).due(0);
        run.put(1, 1, 1).ok();
        run.drop(1, 1).ok();
        run.count(6, 1).due(1);
        run.holder(1, 1).due(1);
    }

    private void closingTakesAllThatHangsOnTheRoot() {
        Run run = doc.run(ROOT, 4, 32).of("a chain of all blocks");
        run.openRaw(0, 7, 1).ok();
        for (int block = 0; block < 31; block++) {
            run.write(0, block, 7, block + 1).ok();
        }
        run.count(6, 0).due(32);
        run.count(1, 0).due(0);
        run.openMap(1).full();
        run.write(0, 30, 7, -1).ok();
        run.count(6, 0).due(31);
        run.close(0).ok();
        run.count(1, 0).due(32);
    }

    private void layout() {
        for (int first = 0; first < 8; first++) {
            for (int count = 0; count <= 8 - first; count++) {
                Run run = doc.run("RAW: with a layout of count LINK words from word first on.", 4, 4);
                run.of(count + " from " + first + " on").openRaw(0, first, count).ok();
                for (int word = 0; word < 8; word++) {
                    boolean isLink = word >= first && word < first + count;
                    run.write(0, 0, word, 4).due(isLink ? BindingKernel.REFUSED : BindingKernel.OK);
                    run.get(0, word).due(isLink ? -1 : 4);
                }
            }
        }
    }

    private void newRoot() {
        Run run = doc.run(NEW_BLOCK, 4, 4).of("a root");
        run.openRaw(0, 0, 0).ok();
        for (int word = 0; word < 8; word++) {
            run.write(0, 0, word, 60 + word).ok();
        }
        run.close(0).ok();
        run.openMap(0).ok();
        run.putMany(0, 0, 4);
        run.close(0).ok();
        run.openRaw(0, 2, 3).ok();
        for (int word = 0; word < 8; word++) {
            run.get(0, word).due(word >= 2 && word < 5 ? -1 : 0);
        }
        run.write(0, 0, 2, 1).ok();
        for (int word = 0; word < 8; word++) {
            run.get(0, 8 + word).due(word >= 2 && word < 5 ? -1 : 0);
        }
    }

    private void newLinkedBlock() {
        Run run = doc.run(NEW_BLOCK, 4, 4).of("a block that was used before");
        run.openRaw(0, 1, 2).ok();
        run.write(0, 0, 1, 3).ok();
        for (int word : new int[] {0, 3, 4, 5, 6, 7}) {
            run.write(0, 3, word, 9).ok();
        }
        run.write(0, 3, 2, 1).ok();
        run.write(0, 3, 2, -1).ok();
        run.write(0, 0, 1, -1).ok();
        run.write(0, 0, 2, 3).ok();
        for (int word = 0; word < 8; word++) {
            run.get(0, 24 + word).due(word == 1 || word == 2 ? -1 : 0);
        }
    }

    private void namedByExactlyOneLink() {
        Run run = doc.run("A block of the application other than the root is named by exactly one LINK word"
            + " of its blocks.", 4, 8);
        run.openRaw(0, 0, 2).ok();
        run.write(0, 0, 0, 3).ok();
        run.write(0, 3, 0, 5).ok();
        run.write(0, 3, 1, 6).ok();
        int[][] words = {{0, 1}, {5, 0}, {5, 1}, {6, 0}, {6, 1}};
        for (int[] each : words) {
            for (int named : new int[] {3, 5, 6}) {
                run.write(0, each[0], each[1], named).due(TAKEN);
            }
        }
        run.write(0, 3, 0, 6).due(TAKEN);
        run.write(0, 0, 0, -1).due(BindingKernel.BUSY);
        run.write(0, 3, 0, -1).ok();
        run.holder(1, 5).refused();
        run.write(0, 6, 0, 5).ok();
        run.holder(1, 5).due(0);
        run.get(0, 48).due(5);
        run.get(0, 24).due(-1);
    }

    private void entriesInOrder() {
        Run run = doc.run("MAP: a table of entries in an order, at most 28, each a key and a value.", 4, 32);
        run.openMap(0).ok();
        for (int key = 0; key < 28; key++) {
            run.put(0, key * 1000, -key).ok();
        }
        run.put(0, 28000, 1).full();
        for (int key = 0; key < 28; key++) {
            run.get(0, key * 1000).due(-key);
        }
        run.get(0, -1).none();
        run.get(0, 1).none();
        run.put(0, 5000, 77).ok();
        run.count(8, 0).due(28);
    }

    private void dataBlocksAsNeeded() {
        Run run = doc.run(DATA_BLOCKS, 4, 32);
        run.openMap(0).ok();
        for (int entries = 0; entries < 28; entries++) {
            run.count(6, 0).due(1 + (entries + 3) / 4);
            run.put(0, entries, 5).ok();
            run.holder(1, 1 + entries / 4).due(0);
        }
        for (int entries = 28; entries > 0; entries--) {
            run.count(6, 0).due(1 + (entries + 3) / 4);
            run.holder(1, (entries + 3) / 4).due(0);
            run.holder(1, 1 + (entries + 3) / 4).refused();
            run.drop(0, 28 - entries).ok();
        }
        run.count(6, 0).due(1);
    }

    private void leastFreeWhereOneIsChosen() {
        Run run = doc.run("Block numbers: \"the least FREE block\" is said where one is chosen.", 4, 8);
        run.openRaw(0, 0, 3).ok();
        run.openMap(1).ok();
        run.write(0, 0, 0, 6).ok();
        run.write(0, 0, 1, 2).ok();
        run.holder(1, 3).refused();
        run.put(1, 1, 1).ok();
        run.holder(1, 3).due(1);
        run.openMap(2).ok();
        run.holder(1, 4).due(2);
        run.write(0, 0, 2, 7).ok();
        run.holder(1, 5).refused();
        run.write(0, 0, 1, -1).ok();
        run.putMany(1, 2, 4);
        run.holder(1, 2).due(1);
    }
}
