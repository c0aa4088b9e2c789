/** Promise 19: get. */
final class GetTest {
    public static void main(String[] args) {
        wrongApps();
        mapEntries();
        rawWords();
        rawEdges();
        Run.end();
    }

    private static void wrongApps() {
        Run run = new Run("get: wrong apps", 4, 4);
        run.get(0, 0).none();
        run.get(-1, 0).none();
        run.get(6, 0).none();
        run.open(0, false, 0, 0).ok();
        run.get(1, 0).none();
        run.get(0, 0).due(0);
        run.close(0).ok();
        run.get(0, 0).none();
    }

    private static void mapEntries() {
        Run run = new Run("get: entries of a map", 4, 4);
        run.openMap(0).ok();
        run.get(0, 0).none();
        run.get(0, -1).none();
        run.put(0, 5, Integer.MIN_VALUE).ok();
        run.put(0, Integer.MIN_VALUE, -1).ok();
        run.get(0, 5).due(Integer.MIN_VALUE);
        run.get(0, Integer.MIN_VALUE).due(-1);
        run.get(0, 0).none();
        run.get(0, 4).none();
        run.get(0, 8).none();
    }

    private static void rawWords() {
        Run run = new Run("get: words of blocks", 4, 8);
        run.openMap(1).ok();
        run.open(0, false, 7, 1).ok();
        run.write(0, 1, 7, 6).ok();
        for (int word = 0; word < 7; word++) {
            run.write(0, 1, word, 10 + word).ok();
            run.write(0, 6, word, -20 - word).ok();
        }
        for (int word = 0; word < 7; word++) {
            run.get(0, 8 + word).due(10 + word);
            run.get(0, 48 + word).due(-20 - word);
        }
        run.get(0, 15).due(6);
        run.get(0, 55).due(-1);
        run.get(0, 7).none();
        run.get(0, 16).none();
        run.get(0, 47).none();
        run.get(0, 56).none();
    }

    private static void rawEdges() {
        Run run = new Run("get: edges of RAW", 4, 5);
        run.open(0, false, 0, 1).ok();
        run.write(0, 0, 0, 4).ok();
        run.write(0, 4, 7, 123).ok();
        run.get(0, 39).due(123);
        run.get(0, 40).none();
        run.get(0, -1).none();
        run.get(0, -7).none();
        run.get(0, -8).none();
        run.get(0, Integer.MIN_VALUE).none();
        run.get(0, Integer.MAX_VALUE).none();
    }
}
