/** Promise 17: write. */
final class WriteTest {
    private static final int BUSY = BindingKernel.BUSY;
    private static final int TAKEN = BindingKernel.TAKEN;

    public static void main(String[] args) {
        wrongNumbers();
        onlyRawAndOwn();
        plainWords();
        linkValues();
        newBlock();
        sameValue();
        busy();
        taken();
        busyBeforeTaken();
        replacing();
        everyLinkWord();
        Run.end();
    }

    private static void wrongNumbers() {
        Run run = new Run("write: wrong numbers", 4, 5);
        run.write(0, 0, 0, 1).refused();
        run.open(0, false, 0, 0).ok();
        run.write(-1, 0, 0, 1).refused();
        run.write(6, 0, 0, 1).refused();
        run.write(1, 0, 0, 1).refused();
        run.write(0, -1, 0, 1).refused();
        run.write(0, 5, 0, 1).refused();
        run.write(0, 0, -1, 1).refused();
        run.write(0, 0, 8, 1).refused();
        run.write(0, Integer.MAX_VALUE, 0, 1).refused();
        run.write(0, 0, Integer.MIN_VALUE, 1).refused();
        for (int word = 0; word < 8; word++) {
            run.get(0, word).due(0);
        }
    }

    private static void onlyRawAndOwn() {
        Run run = new Run("write: only RAW and its own", 4, 6);
        run.openMap(0).ok();
        run.open(1, false, 0, 1).ok();
        run.open(2, false, 0, 1).ok();
        run.write(0, 0, 5, 1).refused();
        run.write(1, 0, 5, 1).refused();
        run.write(1, 2, 5, 1).refused();
        run.write(1, 3, 5, 1).refused();
        run.write(1, 3, 0, -1).refused();
        run.write(1, 1, 0, 3).ok();
        run.write(2, 3, 5, 1).refused();
        run.write(1, 3, 5, 1).ok();
        run.get(2, 21).due(0);
    }

    private static void plainWords() {
        Run run = new Run("write: plain words", 4, 4);
        run.open(0, false, 3, 2).ok();
        for (int word = 0; word < 8; word++) {
            if (word < 3 || word > 4) {
                run.write(0, 0, word, 1000 + word).ok();
            }
        }
        run.write(0, 0, 0, Integer.MIN_VALUE).ok();
        run.write(0, 0, 7, Integer.MAX_VALUE).ok();
        run.write(0, 0, 5, 1).ok();
        run.count(6, 0).due(1);
        run.get(0, 0).due(Integer.MIN_VALUE);
        run.get(0, 1).due(1001);
        run.get(0, 2).due(1002);
        run.get(0, 3).due(-1);
        run.get(0, 4).due(-1);
        run.get(0, 5).due(1);
        run.get(0, 6).due(1006);
        run.get(0, 7).due(Integer.MAX_VALUE);
    }

    private static void linkValues() {
        Run run = new Run("write: link values", 4, 6);
        run.open(0, false, 2, 2).ok();
        run.write(0, 0, 2, -2).refused();
        run.write(0, 0, 2, 6).refused();
        run.write(0, 0, 2, Integer.MIN_VALUE).refused();
        run.write(0, 0, 2, Integer.MAX_VALUE).refused();
        run.get(0, 2).due(-1);
        run.write(0, 0, 2, -1).ok();
        run.write(0, 0, 2, 5).ok();
        run.holder(1, 5).due(0);
        run.count(6, 0).due(2);
        run.write(0, 0, 2, 6).refused();
        run.get(0, 2).due(5);
    }

    private static void newBlock() {
        Run run = new Run("write: a new block", 4, 4);
        run.open(0, false, 1, 3).ok();
        run.write(0, 0, 1, 3).ok();
        for (int word = 0; word < 8; word++) {
            run.get(0, 24 + word).due(word >= 1 && word <= 3 ? -1 : 0);
        }
        run.write(0, 3, 0, 77).ok();
        run.write(0, 3, 7, 78).ok();
        run.write(0, 0, 1, -1).ok();
        run.holder(1, 3).refused();
        run.get(0, 24).none();
        run.open(1, false, 6, 2).ok();
        run.write(1, 1, 7, 3).ok();
        for (int word = 0; word < 8; word++) {
            run.get(1, 24 + word).due(word >= 6 ? -1 : 0);
        }
    }

    private static void sameValue() {
        Run run = new Run("write: the same value", 4, 5);
        run.open(0, false, 0, 2).ok();
        run.write(0, 0, 0, 1).ok();
        run.write(0, 1, 0, 2).ok();
        run.write(0, 1, 5, 9).ok();
        run.write(0, 0, 0, 1).ok();
        run.get(0, 8 + 0).due(2);
        run.get(0, 8 + 5).due(9);
        run.write(0, 1, 0, 2).ok();
        run.write(0, 1, 1, -1).ok();
        run.count(6, 0).due(3);
    }

    private static void busy() {
        Run run = new Run("write: BUSY", 4, 6);
        run.open(0, false, 6, 2).ok();
        run.write(0, 0, 6, 1).ok();
        run.write(0, 1, 7, 2).ok();
        run.write(0, 0, 6, -1).due(BUSY);
        run.write(0, 0, 6, 3).due(BUSY);
        run.write(0, 0, 6, 6).refused();
        run.get(0, 6).due(1);
        run.holder(1, 3).refused();
        run.write(0, 1, 7, -1).ok();
        run.write(0, 1, 0, 5).ok();
        run.write(0, 0, 6, -1).ok();
        run.count(6, 0).due(1);
        run.get(0, 6).due(-1);
    }

    private static void taken() {
        Run run = new Run("write: TAKEN", 4, 6);
        run.open(0, false, 0, 2).ok();
        run.openMap(1).ok();
        run.put(1, 1, 1).ok();
        run.write(0, 0, 0, 0).due(TAKEN);
        run.write(0, 0, 0, 1).due(TAKEN);
        run.write(0, 0, 0, 2).due(TAKEN);
        run.write(0, 0, 0, 3).ok();
        run.write(0, 0, 1, 3).due(TAKEN);
        run.write(0, 3, 1, 3).due(TAKEN);
        run.write(0, 0, 0, 1).due(TAKEN);
        run.holder(1, 3).due(0);
        run.get(0, 0).due(3);
        run.get(0, 1).due(-1);
        run.close(1).ok();
        run.write(0, 0, 1, 2).ok();
    }

    private static void busyBeforeTaken() {
        Run run = new Run("write: BUSY before TAKEN", 4, 6);
        run.open(0, false, 0, 1).ok();
        run.write(0, 0, 0, 1).ok();
        run.write(0, 1, 0, 2).ok();
        run.write(0, 0, 0, 0).due(BUSY);
        run.write(0, 0, 0, 2).due(BUSY);
        run.write(0, 1, 0, 1).due(TAKEN);
    }

    private static void replacing() {
        Run run = new Run("write: one block for another", 4, 6);
        run.open(0, false, 0, 2).ok();
        run.write(0, 0, 1, 4).ok();
        run.write(0, 4, 3, 44).ok();
        run.write(0, 0, 1, 2).ok();
        run.holder(1, 4).refused();
        run.holder(1, 2).due(0);
        run.get(0, 1).due(2);
        run.get(0, 8 * 2 + 3).due(0);
        run.count(6, 0).due(2);
        run.write(0, 0, 0, 4).ok();
        run.get(0, 8 * 4 + 3).due(0);
        run.count(1, 0).due(3);
    }

    private static void everyLinkWord() {
        Run run = new Run("write: every link word", 4, 32);
        run.open(0, false, 0, 8).ok();
        for (int word = 0; word < 8; word++) {
            run.write(0, 0, word, 31 - word).ok();
        }
        run.write(0, 31, 7, 1).ok();
        run.count(6, 0).due(10);
        run.write(0, 0, 0, -1).due(BUSY);
        for (int word = 1; word < 8; word++) {
            run.write(0, 0, word, -1).ok();
        }
        run.count(6, 0).due(3);
    }
}
