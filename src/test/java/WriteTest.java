/** Promise 17: write. */
final class WriteTest {
    private static final Document DOC = new Document("Promise 17: write");
    private static final String SETS = "RAW: sets word 0 .. 7 of block 0 .. BLOCKS - 1 to the value.";
    private static final String NOT_ITS = "app is not RAW, or the block is not its own: REFUSED.";
    private static final String HELD_IS_BUSY = "It holds a block one of whose LINK words is not -1: BUSY.";
    private static final String IS_TAKEN = "The value is a block that is not FREE: TAKEN.";
    private static final String IS_NEW = "the block value, if not -1, belongs to app and is new,";
    private static final int LEAST = Integer.MIN_VALUE;
    private static final int GREATEST = Integer.MAX_VALUE;
    private static final int BUSY = BindingKernel.BUSY;
    private static final int TAKEN = BindingKernel.TAKEN;
    private static final int REFUSED = BindingKernel.REFUSED;

    public static void main(String[] args) {
        numbersInRange();
        eachWordAlone();
        notRaw();
        notItsOwn();
        notALinkWord();
        linkValuesInRange();
        holdsItAlready();
        busy();
        busyByEachLinkWord();
        plainWordsMakeNotBusy();
        busyBeforeTaken();
        taken();
        heldIsFree();
        valueBelongsToApp();
        valueIsNew();
        wordIsSet();
        everyLinkWord();
        DOC.end();
    }

    private static void numbersInRange() {
        Run run = DOC.run(SETS, 4, 5).of("out of range");
        run.write(0, 0, 0, 1).refused();
        run.openRaw(0, 7, 1).ok();
        run.write(0, 0, 7, 4).ok();
        for (int app : new int[] {-1, 6, 1, LEAST, GREATEST}) {
            run.write(app, 0, 0, 1).refused();
        }
        for (int block : new int[] {-1, 5, LEAST, GREATEST}) {
            run.write(0, block, 0, 1).refused();
            run.write(0, block, 7, -1).refused();
        }
        for (int word : new int[] {-1, 8, LEAST, GREATEST}) {
            run.write(0, 0, word, 1).refused();
            run.write(0, 4, word, 1).refused();
        }
        for (int word = 0; word < 7; word++) {
            run.get(0, word).due(0);
            run.get(0, 32 + word).due(0);
        }
    }

    private static void eachWordAlone() {
        for (int block : new int[] {0, 3, 4}) {
            for (int word = 0; word < 8; word++) {
                Run run = DOC.run(SETS, 4, 5).of("word " + word + " of block " + block);
                run.openRaw(0, 3, 2).ok();
                run.write(0, 0, 3, 3).ok();
                run.write(0, 0, 4, 4).ok();
                boolean isLink = word == 3 || word == 4;
                int value = isLink ? block == 0 ? word : 2 : 77;
                run.write(0, block, word, value).ok();
                for (int key = 0; key < 40; key++) {
                    boolean isSet = key == 8 * block + word;
                    boolean isOwn = key < 8 || key >= 24 || isLink && block != 0 && key >= 16;
                    int before = key % 8 == 3 || key % 8 == 4 ? key < 8 ? key : -1 : 0;
                    run.get(0, key).due(isSet ? value : isOwn ? before : BindingKernel.NONE);
                }
            }
        }
    }

    private static void notRaw() {
        Run run = DOC.run(NOT_ITS, 4, 6).of("a MAP");
        run.open(0, true, 0, 8).ok();
        run.put(0, 1, 1).ok();
        for (int word = 0; word < 8; word++) {
            run.write(0, 0, word, -1).refused();
            run.write(0, 0, word, 4).refused();
            run.write(0, 1, word, 4).refused();
        }
        run.get(0, 1).due(1);
        run.count(6, 0).due(2);
    }

    private static void notItsOwn() {
        Run run = DOC.run(NOT_ITS, 4, 6).of("blocks of others and of none");
        run.openMap(0).ok();
        run.openRaw(1, 0, 1).ok();
        run.openRaw(2, 0, 1).ok();
        for (int block : new int[] {0, 2, 3, 5}) {
            run.write(1, block, 5, 1).refused();
            run.write(1, block, 0, -1).refused();
            run.write(1, block, 0, 4).refused();
        }
        run.write(1, 1, 0, 3).ok();
        run.write(2, 3, 5, 1).refused();
        run.write(1, 3, 5, 1).ok();
        run.get(2, 21).due(0);
        run.get(2, 16).due(-1);
        run.write(1, 1, 0, -1).ok();
        run.write(1, 3, 5, 1).refused();
    }

    private static void notALinkWord() {
        Run run = DOC.run("Not a LINK word: it is set: OK.", 4, 6);
        run.openRaw(0, 3, 2).ok();
        run.openMap(1).ok();
        for (int word : new int[] {0, 1, 2, 5, 6, 7}) {
            for (int value : new int[] {LEAST, GREATEST, -2, -1, 0, 1, 2, 6}) {
                run.write(0, 0, word, value).ok();
                run.get(0, word).due(value);
            }
        }
        run.count(6, 0).due(1);
        run.get(0, 3).due(-1);
        run.get(0, 4).due(-1);
        Run plain = DOC.run("Not a LINK word: it is set: OK.", 4, 4).of("no LINK word at all");
        plain.openRaw(0, 5, 0).ok();
        for (int word = 0; word < 8; word++) {
            plain.write(0, 0, word, 2).ok();
            plain.write(0, 0, word, 99).ok();
        }
        plain.count(6, 0).due(1);
    }

    private static void linkValuesInRange() {
        Run run = DOC.run("A LINK word: value is out of -1 .. BLOCKS - 1: REFUSED.", 4, 6);
        run.openRaw(0, 2, 2).ok();
        int[] outOfRange = {-2, 6, 7, 32, LEAST, GREATEST};
        for (int value : outOfRange) {
            run.write(0, 0, 2, value).refused();
        }
        run.get(0, 2).due(-1);
        run.write(0, 0, 2, 5).ok();
        run.write(0, 5, 3, 1).ok();
        for (int value : outOfRange) {
            run.write(0, 0, 2, value).refused();
            run.write(0, 5, 3, value).refused();
        }
        run.get(0, 2).due(5);
        run.get(0, 43).due(1);
        run.write(0, 5, 3, -1).ok();
        run.write(0, 0, 2, -1).ok();
        run.count(6, 0).due(1);
    }

    private static void holdsItAlready() {
        Run run = DOC.run("It holds the value already: OK.", 4, 5);
        run.openRaw(0, 0, 2).ok();
        run.write(0, 0, 0, -1).ok();
        run.write(0, 0, 0, 1).ok();
        run.write(0, 1, 5, 8).ok();
        run.write(0, 0, 0, 1).ok();
        run.get(0, 8 + 5).due(8);
        run.write(0, 1, 0, 2).ok();
        run.write(0, 1, 5, 9).ok();
        run.write(0, 0, 0, 1).ok();
        run.get(0, 8).due(2);
        run.get(0, 8 + 5).due(9);
        run.write(0, 1, 0, 2).ok();
        run.write(0, 1, 1, -1).ok();
        run.count(6, 0).due(3);
        run.count(1, 0).due(2);
    }

    private static void busy() {
        Run run = DOC.run(HELD_IS_BUSY, 4, 6);
        run.openRaw(0, 6, 2).ok();
        run.write(0, 0, 6, 1).ok();
        run.write(0, 1, 7, 2).ok();
        run.write(0, 0, 6, -1).due(BUSY);
        run.write(0, 0, 6, 3).due(BUSY);
        run.get(0, 6).due(1);
        run.get(0, 15).due(2);
        run.holder(1, 1).due(0);
        run.holder(1, 3).refused();
        run.write(0, 0, 7, 3).ok();
        run.write(0, 1, 7, -1).ok();
        run.write(0, 0, 6, -1).ok();
        run.count(6, 0).due(2);
    }

    private static void busyByEachLinkWord() {
        for (int first = 0; first < 8; first++) {
            for (int word = first; word < 8; word++) {
                Run run = DOC.run(HELD_IS_BUSY, 4, 6).of("layout from " + first + " on, by word " + word);
                run.openRaw(0, first, 8 - first).ok();
                run.write(0, 0, first, 5).ok();
                run.write(0, 5, word, 2).ok();
                run.write(0, 0, first, -1).due(BUSY);
                run.write(0, 0, first, 4).due(BUSY);
                run.write(0, 5, word, -1).ok();
                run.write(0, 0, first, 4).ok();
            }
        }
    }

    private static void plainWordsMakeNotBusy() {
        Run run = DOC.run(HELD_IS_BUSY, 4, 6).of("words that are no LINK words");
        run.openRaw(0, 3, 2).ok();
        run.write(0, 0, 3, 1).ok();
        for (int word : new int[] {0, 1, 2, 5, 6, 7}) {
            run.write(0, 1, word, 2).ok();
        }
        run.write(0, 0, 3, 2).ok();
        run.holder(1, 1).refused();
        run.write(0, 2, 0, 3).ok();
        run.write(0, 0, 3, -1).ok();
        run.count(6, 0).due(1);
    }

    private static void busyBeforeTaken() {
        Run run = DOC.run(HELD_IS_BUSY, 4, 6).of("the value is not FREE either");
        run.openRaw(0, 0, 1).ok();
        run.openMap(1).ok();
        run.write(0, 0, 0, 2).ok();
        run.write(0, 2, 0, 3).ok();
        for (int value : new int[] {0, 1, 3}) {
            run.write(0, 0, 0, value).due(BUSY);
        }
        run.write(0, 2, 0, 2).due(TAKEN);
    }

    private static void taken() {
        Run run = DOC.run(IS_TAKEN, 4, 8);
        run.openRaw(0, 0, 2).ok();
        run.openMap(1).ok();
        run.put(1, 1, 1).ok();
        run.openRaw(2, 0, 1).ok();
        run.write(2, 3, 0, 7).ok();
        for (int value : new int[] {0, 1, 2, 3, 7}) {
            run.write(0, 0, 0, value).due(TAKEN);
        }
        run.get(0, 0).due(-1);
        run.write(0, 0, 0, 4).ok();
        run.write(0, 0, 1, 4).due(TAKEN);
        run.write(0, 4, 1, 4).due(TAKEN);
        run.write(0, 4, 1, 0).due(TAKEN);
        run.write(0, 0, 0, 1).due(TAKEN);
        run.holder(1, 4).due(0);
        run.get(0, 0).due(4);
        run.get(0, 1).due(-1);
        run.holder(1, 1).due(1);
        run.holder(1, 7).due(2);
        run.close(2).ok();
        run.write(0, 0, 1, 7).ok();
    }

    private static void heldIsFree() {
        Run run = DOC.run("Else the block that it held, if any, is FREE,", 4, 6);
        run.openRaw(0, 0, 2).ok();
        run.write(0, 0, 1, 4).ok();
        run.write(0, 0, 1, 2).ok();
        run.holder(1, 4).refused();
        run.count(6, 0).due(2);
        run.get(0, 32).none();
        run.write(0, 4, 3, 1).refused();
        run.write(0, 0, 1, -1).ok();
        run.holder(1, 2).refused();
        run.count(6, 0).due(1);
        run.count(1, 0).due(5);
        run.openMap(1).ok();
        run.holder(1, 1).due(1);
        run.put(1, 1, 1).ok();
        run.holder(1, 2).due(1);
    }

    private static void valueBelongsToApp() {
        Run run = DOC.run(IS_NEW, 4, 6).of("belongs to app");
        run.openMap(3).ok();
        run.openRaw(5, 0, 1).ok();
        run.write(5, 1, 0, 4).ok();
        run.holder(1, 4).due(5);
        run.count(6, 5).due(2);
        run.count(1, 0).due(3);
        run.write(5, 4, 0, 5).ok();
        run.holder(1, 5).due(5);
        run.write(5, 4, 0, -1).ok();
        run.count(6, 5).due(2);
        run.write(5, 4, 0, 0).due(TAKEN);
    }

    private static void valueIsNew() {
        for (int first = 0; first < 8; first++) {
            for (int count = 1; count <= 8 - first; count++) {
                Run run = DOC.run(IS_NEW, 4, 4).of("layout " + first + ", " + count);
                run.openRaw(1, 0, 8).ok();
                run.openRaw(0, 0, 1).ok();
                run.write(0, 1, 0, 3).ok();
                for (int word = 1; word < 8; word++) {
                    run.write(0, 3, word, 70 + word).ok();
                }
                run.close(0).ok();
                run.openRaw(0, first, count).ok();
                run.write(0, 1, first, 3).ok();
                for (int word = 0; word < 8; word++) {
                    boolean isLink = word >= first && word < first + count;
                    run.get(0, 24 + word).due(isLink ? -1 : 0);
                }
            }
        }
    }

    private static void wordIsSet() {
        Run run = DOC.run("the word is set: OK.", 4, 6);
        run.openRaw(0, 0, 2).ok();
        run.write(0, 0, 0, 5).ok();
        run.get(0, 0).due(5);
        run.get(0, 1).due(-1);
        run.write(0, 5, 1, 3).ok();
        run.get(0, 41).due(3);
        run.write(0, 5, 1, 2).ok();
        run.get(0, 41).due(2);
        run.write(0, 5, 1, -1).ok();
        run.get(0, 41).due(-1);
        run.write(0, 0, 0, 3).ok();
        run.get(0, 0).due(3);
        run.write(0, 0, 0, -1).ok();
        run.get(0, 0).due(-1);
    }

    private static void everyLinkWord() {
        Run run = DOC.run("the word is set: OK.", 4, 32).of("every LINK word");
        run.openRaw(0, 0, 8).ok();
        for (int word = 0; word < 8; word++) {
            run.write(0, 0, word, 31 - word).ok();
            run.get(0, word).due(31 - word);
        }
        run.write(0, 31, 7, 1).ok();
        run.count(6, 0).due(10);
        run.write(0, 0, 0, -1).due(BUSY);
        for (int word = 1; word < 8; word++) {
            run.write(0, 0, word, -1).ok();
            run.holder(1, 31 - word).due(REFUSED);
        }
        run.count(6, 0).due(3);
    }
}
