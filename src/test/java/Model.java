import java.util.ArrayDeque;
import java.util.ArrayList;
import java.util.Arrays;
import java.util.Comparator;
import java.util.HashMap;
import java.util.LinkedHashMap;
import java.util.List;
import java.util.Map;
import java.util.TreeMap;
import java.util.TreeSet;

/**
 * A second reading of the document, held in other ways than the program's: pages and blocks are
 * objects that exist only while somebody has them, and lists and maps of the library do the rest.
 */
final class Model {
    static final int REFUSED = -1;
    static final int FULL = -2;
    static final int BUSY = -3;
    static final int TAKEN = -4;
    static final int BAD = -5;
    static final int LOST = -6;
    static final long NONE = 1000000000000L;

    private static final class Page {
        final int number;
        final int[] words = new int[4];
        final Map<Integer, Integer> rights = new HashMap<>();
        Long deadline = null;

        Page(int number) {
            this.number = number;
        }
    }

    private record Step(int code, int k, int yes, int no) { }

    private static final class App {
        final int number;
        final boolean map;
        final int first;
        final int count;
        final int root;
        /** In the order of taking. */
        final List<Page> pages = new ArrayList<>();
        final List<Step> draft = new ArrayList<>();
        final ArrayDeque<int[]> frames = new ArrayDeque<>();
        /** RAW: the words of each block. */
        final TreeMap<Integer, int[]> blocks = new TreeMap<>();
        /** MAP: keys and values side by side, in order; and the data blocks in order. */
        final List<int[]> entries = new ArrayList<>();
        final List<Integer> dataBlocks = new ArrayList<>();

        App(int number, boolean map, int first, int count, int root) {
            this.number = number;
            this.map = map;
            this.first = first;
            this.count = count;
            this.root = root;
            blocks.put(root, newBlock());
        }

        boolean isLink(int word) {
            return !map && first <= word && word <= first + count - 1;
        }

        int[] newBlock() {
            int[] words = new int[8];
            for (int word = 0; word < 8; word++) {
                words[word] = isLink(word) ? -1 : 0;
            }
            return words;
        }

        boolean hasBlock(int block) {
            return blocks.containsKey(block) || dataBlocks.contains(block);
        }

        Page page(int number) {
            return pages.stream().filter(page -> page.number == number).findFirst().orElse(null);
        }
    }

    private final int pages;
    private final int blocks;
    private final Map<Integer, App> open = new TreeMap<>();
    private final Map<Integer, List<Integer>> takenAway = new HashMap<>();
    private final LinkedHashMap<Integer, List<Step>> filters = new LinkedHashMap<>();
    private final List<Integer> arriving = new ArrayList<>();
    private long clock = 0;
    private int lost = 0;

    Model(int pages, int blocks) {
        this.pages = Math.min(32, Math.max(4, pages));
        this.blocks = Math.min(32, Math.max(4, blocks));
    }

    private static boolean in(int number, int least, int greatest) {
        return least <= number && number <= greatest;
    }

    private TreeSet<Integer> freePages() {
        TreeSet<Integer> free = new TreeSet<>();
        for (int page = 0; page < pages; page++) {
            free.add(page);
        }
        open.values().forEach(app -> app.pages.forEach(page -> free.remove(page.number)));
        return free;
    }

    private TreeSet<Integer> freeBlocks() {
        TreeSet<Integer> free = new TreeSet<>();
        for (int block = 0; block < blocks; block++) {
            free.add(block);
        }
        open.values().forEach(app -> {
            free.removeAll(app.blocks.keySet());
            free.removeAll(app.dataBlocks);
        });
        return free;
    }

    int open(int app, boolean map, int first, int count) {
        if (!in(app, 0, 5) || !map && (!in(first, 0, 7) || !in(count, 0, 8 - first))) {
            return REFUSED;
        }
        if (open.containsKey(app)) {
            return REFUSED;
        }
        if (freeBlocks().isEmpty()) {
            return FULL;
        }
        open.put(app, new App(app, map, first, count, freeBlocks().first()));
        takenAway.remove(app);
        return 0;
    }

    int close(int app) {
        if (!open.containsKey(app)) {
            return REFUSED;
        }
        open.remove(app);
        filters.remove(app);
        open.values().forEach(other -> other.pages.forEach(page -> page.rights.remove(app)));
        return 0;
    }

    int take(int app) {
        if (!open.containsKey(app)) {
            return REFUSED;
        }
        if (freePages().isEmpty()) {
            return FULL;
        }
        Page page = new Page(freePages().first());
        open.get(app).pages.add(page);
        return page.number;
    }

    private Page ownPage(int app, int page) {
        return open.containsKey(app) ? open.get(app).page(page) : null;
    }

    int release(int app, int page) {
        Page own = ownPage(app, page);
        if (own == null) {
            return REFUSED;
        }
        open.get(app).pages.remove(own);
        return 0;
    }

    int share(int app, int page, int to, int right) {
        Page own = ownPage(app, page);
        if (!in(right, 0, 2) || own == null || to == app || !open.containsKey(to)) {
            return REFUSED;
        }
        own.rights.put(to, right);
        return 0;
    }

    private Page usablePage(int app, int page, int right) {
        if (!open.containsKey(app)) {
            return null;
        }
        for (App owner : open.values()) {
            Page found = owner.page(page);
            if (found != null && (owner.number == app || found.rights.getOrDefault(app, 0) >= right)) {
                return found;
            }
        }
        return null;
    }

    int store(int app, int page, int word, int value) {
        Page usable = usablePage(app, page, 2);
        if (usable == null || !in(word, 0, 3)) {
            return REFUSED;
        }
        usable.words[word] = value;
        return 0;
    }

    long fetch(int app, int page, int word) {
        Page usable = usablePage(app, page, 1);
        return usable == null || !in(word, 0, 3) ? NONE : usable.words[word];
    }

    int revoke(int app, int n, int delay) {
        if (!in(n, 1, 8) || !in(delay, 1, 20) || !open.containsKey(app)) {
            return REFUSED;
        }
        int named = 0;
        for (int i = 0; i < n; i++) {
            List<Page> unnamed = open.get(app).pages.stream().filter(page -> page.deadline == null).toList();
            if (unnamed.size() > 2) {
                unnamed.get(unnamed.size() - 1).deadline = clock + delay;
                named++;
            }
        }
        return named;
    }

    int tick(int n) {
        if (!in(n, 1, 100)) {
            return REFUSED;
        }
        clock += n;
        List<Page> due = new ArrayList<>();
        Map<Page, App> owners = new HashMap<>();
        for (App app : open.values()) {
            for (Page page : app.pages) {
                if (page.deadline != null && page.deadline <= clock) {
                    due.add(page);
                    owners.put(page, app);
                }
            }
        }
        due.sort(Comparator.comparingLong((Page page) -> page.deadline).thenComparingInt(page -> page.number));
        for (Page page : due) {
            App owner = owners.get(page);
            owner.pages.remove(page);
            takenAway.computeIfAbsent(owner.number, key -> new ArrayList<>()).add(page.number);
        }
        return due.size();
    }

    int op(int app, int code, int k, int yes, int no) {
        boolean fits = switch (code) {
            case 0, 1 -> in(k, 0, 63);
            case 6 -> in(k, 0, 31);
            case 7, 8, 9 -> in(yes, 0, 15) && in(no, 0, 15);
            case 2, 3, 4, 5, 10, 11 -> true;
            default -> false;
        };
        if (!fits || !open.containsKey(app)) {
            return REFUSED;
        }
        List<Step> draft = open.get(app).draft;
        if (draft.size() == 16) {
            return FULL;
        }
        draft.add(new Step(code, k, yes, no));
        return draft.size() - 1;
    }

    int install(int app) {
        if (!open.containsKey(app)) {
            return REFUSED;
        }
        List<Step> draft = List.copyOf(open.get(app).draft);
        open.get(app).draft.clear();
        for (int i = 0; i < draft.size(); i++) {
            Step step = draft.get(i);
            boolean jumps = in(step.code, 7, 9);
            if (step.code <= 9 && !jumps && i + 1 >= draft.size()) {
                return BAD;
            }
            if (jumps && (i + 1 + step.yes >= draft.size() || i + 1 + step.no >= draft.size())) {
                return BAD;
            }
        }
        filters.remove(app);
        if (!draft.isEmpty()) {
            filters.put(app, draft);
        }
        return 0;
    }

    int push(int value) {
        if (!in(value, 0, 255)) {
            return REFUSED;
        }
        if (arriving.size() == 16) {
            return FULL;
        }
        arriving.add(value);
        return arriving.size();
    }

    /** The rest of a filter from instruction i on, told as the document tells it. */
    private static boolean accepts(List<Step> filter, int[] frame, int i, int a, int x) {
        Step step = filter.get(i);
        int k = step.k;
        switch (step.code) {
            case 0:
                return k < frame.length && accepts(filter, frame, i + 1, frame[k], x);
            case 1:
                long index = (long) x + (long) k;
                return index >= 0 && index < frame.length && accepts(filter, frame, i + 1, frame[(int) index], x);
            case 2:
                return accepts(filter, frame, i + 1, frame.length, x);
            case 3:
                return accepts(filter, frame, i + 1, a, a);
            case 4:
                return accepts(filter, frame, i + 1, a + k, x);
            case 5:
                return accepts(filter, frame, i + 1, a & k, x);
            case 6:
                return accepts(filter, frame, i + 1, (int) ((a & 0xffffffffL) >> k), x);
            case 7:
                return accepts(filter, frame, i + 1 + (a == k ? step.yes : step.no), a, x);
            case 8:
                return accepts(filter, frame, i + 1 + (a > k ? step.yes : step.no), a, x);
            case 9:
                return accepts(filter, frame, i + 1 + ((a & k) != 0 ? step.yes : step.no), a, x);
            case 10:
                return k != 0;
            default:
                return a != 0;
        }
    }

    int arrive() {
        int[] frame = arriving.stream().mapToInt(Integer::intValue).toArray();
        arriving.clear();
        for (Map.Entry<Integer, List<Step>> each : filters.entrySet()) {
            if (accepts(each.getValue(), frame, 0, 0, 0)) {
                App app = open.get(each.getKey());
                if (app.frames.size() == 4) {
                    lost++;
                    return LOST;
                }
                app.frames.addLast(frame);
                return app.number;
            }
        }
        return REFUSED;
    }

    int got(int app, int i) {
        if (!open.containsKey(app) || open.get(app).frames.isEmpty()) {
            return REFUSED;
        }
        int[] frame = open.get(app).frames.peekFirst();
        if (i == -1) {
            return frame.length;
        }
        return in(i, 0, frame.length - 1) ? frame[i] : REFUSED;
    }

    int next(int app) {
        if (!open.containsKey(app) || open.get(app).frames.isEmpty()) {
            return REFUSED;
        }
        open.get(app).frames.removeFirst();
        return open.get(app).frames.size();
    }

    int write(int app, int block, int word, int value) {
        App raw = open.get(app);
        if (!in(word, 0, 7) || raw == null || raw.map || !raw.blocks.containsKey(block)) {
            return REFUSED;
        }
        int[] words = raw.blocks.get(block);
        if (raw.isLink(word)) {
            if (!in(value, -1, blocks - 1)) {
                return REFUSED;
            }
            int held = words[word];
            if (held == value) {
                return 0;
            }
            if (held != -1) {
                int[] below = raw.blocks.get(held);
                for (int i = 0; i < 8; i++) {
                    if (raw.isLink(i) && below[i] != -1) {
                        return BUSY;
                    }
                }
            }
            if (value != -1 && !freeBlocks().contains(value)) {
                return TAKEN;
            }
            raw.blocks.remove(held);
            if (value != -1) {
                raw.blocks.put(value, raw.newBlock());
            }
        }
        words[word] = value;
        return 0;
    }

    int put(int app, int key, int value, boolean present) {
        App map = open.get(app);
        if (map == null || !map.map) {
            return REFUSED;
        }
        List<int[]> entries = map.entries;
        int[] found = entries.stream().filter(entry -> entry[0] == key).findFirst().orElse(null);
        if (present && found != null) {
            found[1] = value;
            return 0;
        }
        if (present) {
            boolean needsBlock = entries.size() == 4 * map.dataBlocks.size();
            if (entries.size() == 28 || needsBlock && freeBlocks().isEmpty()) {
                return FULL;
            }
            if (needsBlock) {
                map.dataBlocks.add(freeBlocks().first());
            }
            entries.add(new int[] {key, value});
            return 0;
        }
        if (found == null) {
            return REFUSED;
        }
        int[] last = entries.get(entries.size() - 1);
        entries.set(entries.indexOf(found), last);
        entries.remove(entries.size() - 1);
        while (4 * (map.dataBlocks.size() - 1) >= entries.size() && !map.dataBlocks.isEmpty()) {
            map.dataBlocks.remove(map.dataBlocks.size() - 1);
        }
        return 0;
    }

    long get(int app, int key) {
        App asking = open.get(app);
        if (asking == null) {
            return NONE;
        }
        if (asking.map) {
            for (int[] entry : asking.entries) {
                if (entry[0] == key) {
                    return entry[1];
                }
            }
            return NONE;
        }
        boolean isThere = in(key, 0, 8 * blocks - 1) && asking.blocks.containsKey(key / 8);
        return isThere ? asking.blocks.get(key / 8)[key % 8] : NONE;
    }

    int holder(int kind, int number) {
        if (kind == 0 || kind == 1) {
            for (App app : open.values()) {
                if (kind == 0 ? app.page(number) != null : app.hasBlock(number)) {
                    return app.number;
                }
            }
            return REFUSED;
        }
        List<Integer> list = takenAway.getOrDefault(kind - 2, List.of());
        return in(number, 0, 7) && number < list.size() ? list.get(list.size() - 1 - number) : REFUSED;
    }

    int count(int what, int app) {
        if (what == 0) {
            return freePages().size();
        }
        if (what == 1) {
            return freeBlocks().size();
        }
        if (what == 2) {
            return lost;
        }
        if (!in(what, 3, 8) || !in(app, 0, 5)) {
            return REFUSED;
        }
        App asked = open.get(app);
        if (asked == null) {
            return 0;
        }
        return switch (what) {
            case 3 -> asked.pages.size();
            case 4 -> (int) asked.pages.stream().filter(page -> page.deadline != null).count();
            case 5 -> asked.frames.size();
            case 6 -> asked.blocks.size() + asked.dataBlocks.size();
            case 7 -> 1 + Arrays.asList(filters.keySet().toArray()).indexOf(app);
            default -> asked.entries.size();
        };
    }
}
