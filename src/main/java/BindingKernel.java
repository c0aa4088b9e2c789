/**
 * A kernel that only guards resources: memory pages, network frames and disk blocks. What an
 * application does with what it holds is its own affair; the kernel says who holds what.
 */
public final class BindingKernel {
    public static final int OK = 0;
    public static final int REFUSED = -1;
    public static final int FULL = -2;
    public static final int BUSY = -3;
    public static final int TAKEN = -4;
    public static final int BAD = -5;
    public static final int LOST = -6;
    public static final long NONE = 1000000000000L;

    private static final int APPS = 6;
    private static final int NOBODY = -1;
    private static final int NOTHING = -1;
    private static final int LEAST_SIZE = 4;
    private static final int GREATEST_SIZE = 32;
    private static final int RIGHT_TO_READ = 1;
    private static final int RIGHT_TO_WRITE = 2;
    private static final int MOST_NAMED_AT_ONCE = 8;
    private static final int LONGEST_DELAY = 20;
    private static final int LONGEST_TICK = 100;
    private static final int GREATEST_BYTE = 255;
    private static final int FIRST_LIST_KIND = 2;

    private final Application[] apps;
    private final Memory memory;
    private final FilterOrder filterOrder;
    private final Frame arriving;
    private final Disk disk;
    private int framesLost;

    public BindingKernel(int pages, int blocks) {
        memory = new Memory(clampSize(pages));
        disk = new Disk(clampSize(blocks));
        filterOrder = new FilterOrder();
        arriving = new Frame();
        framesLost = 0;
        apps = new Application[APPS];
        for (int app = 0; app < APPS; app++) {
            apps[app] = new Application();
        }
    }

    public int open(int app, boolean map, int first, int count) {
        if (!isApp(app) || !(map || isLayout(first, count)) || apps[app].isOpen) {
            return REFUSED;
        }
        int root = disk.leastFree();
        if (root == NOTHING) {
            return FULL;
        }
        apps[app].begin(map, first, count);
        disk.bind(root, app, apps[app].firstLink, apps[app].links);
        return OK;
    }

    public int close(int app) {
        if (!isOpen(app)) {
            return REFUSED;
        }
        memory.forget(app);
        disk.freeAllOf(app);
        filterOrder.drop(app);
        apps[app].end();
        return OK;
    }

    public int take(int app) {
        if (!isOpen(app)) {
            return REFUSED;
        }
        int page = memory.leastFree();
        if (page == NOTHING) {
            return FULL;
        }
        memory.bind(page, app);
        return page;
    }

    public int release(int app, int page) {
        if (!owns(app, page)) {
            return REFUSED;
        }
        memory.free(page);
        return OK;
    }

    public int share(int app, int page, int to, int right) {
        if (!isIn(right, 0, RIGHT_TO_WRITE) || !owns(app, page) || to == app || !isOpen(to)) {
            return REFUSED;
        }
        memory.setRight(page, to, right);
        return OK;
    }

    public int store(int app, int page, int word, int value) {
        if (!mayUse(app, page, word, RIGHT_TO_WRITE)) {
            return REFUSED;
        }
        memory.setWord(page, word, value);
        return OK;
    }

    public long fetch(int app, int page, int word) {
        if (!mayUse(app, page, word, RIGHT_TO_READ)) {
            return NONE;
        }
        return memory.wordOf(page, word);
    }

    public int revoke(int app, int n, int delay) {
        if (!isOpen(app) || !isIn(n, 1, MOST_NAMED_AT_ONCE) || !isIn(delay, 1, LONGEST_DELAY)) {
            return REFUSED;
        }
        for (int named = 0; named < n; named++) {
            int page = memory.pageToName(app);
            if (page == NOTHING) {
                return named;
            }
            memory.nameAfter(page, delay);
        }
        return n;
    }

    public int tick(int n) {
        if (!isIn(n, 1, LONGEST_TICK)) {
            return REFUSED;
        }
        memory.passTime(n);
        for (int takenAway = 0; takenAway < memory.size; takenAway++) {
            int page = memory.firstDue();
            if (page == NOTHING) {
                return takenAway;
            }
            apps[memory.ownerOf(page)].pagesTakenAway.append(page);
            memory.free(page);
        }
        return memory.size;
    }

    public int op(int app, int code, int k, int yes, int no) {
        if (!isOpen(app) || !Program.isInstruction(code, k, yes, no)) {
            return REFUSED;
        }
        Program draft = apps[app].draft;
        if (draft.isFull()) {
            return FULL;
        }
        draft.append(code, k, yes, no);
        return draft.length - 1;
    }

    public int install(int app) {
        if (!isOpen(app)) {
            return REFUSED;
        }
        if (!apps[app].draft.isSound()) {
            apps[app].draft.clear();
            return BAD;
        }
        filterOrder.drop(app);
        if (apps[app].draft.length > 0) {
            filterOrder.append(app);
        }
        apps[app].draftBecomesFilter();
        return OK;
    }

    public int push(int value) {
        if (!isIn(value, 0, GREATEST_BYTE)) {
            return REFUSED;
        }
        if (arriving.isFull()) {
            return FULL;
        }
        arriving.append(value);
        return arriving.length;
    }

    public int arrive() {
        int app = firstAccepting();
        int answer = app == NOBODY ? REFUSED : deliver(app);
        arriving.clear();
        return answer;
    }

    public int got(int app, int i) {
        if (!isOpen(app) || apps[app].frames.length == 0) {
            return REFUSED;
        }
        Frame oldest = apps[app].frames.oldest();
        if (i == -1) {
            return oldest.length;
        }
        return oldest.hasByte(i) ? oldest.byteAt(i) : REFUSED;
    }

    public int next(int app) {
        if (!isOpen(app) || apps[app].frames.length == 0) {
            return REFUSED;
        }
        apps[app].frames.dropOldest();
        return apps[app].frames.length;
    }

    public int write(int app, int block, int word, int value) {
        if (!isOpen(app) || !disk.hasBlock(block) || !isIn(word, 0, Disk.WORDS - 1)) {
            return REFUSED;
        }
        if (apps[app].isMap || disk.ownerOf(block) != app) {
            return REFUSED;
        }
        if (apps[app].isLink(word)) {
            return relink(app, block, word, value);
        }
        disk.setWord(block, word, value);
        return OK;
    }

    public int put(int app, int key, int value, boolean present) {
        if (!isOpen(app) || !apps[app].isMap) {
            return REFUSED;
        }
        EntryTable table = apps[app].table;
        int place = table.placeOf(disk, key);
        if (place == NOTHING) {
            return present ? table.append(disk, app, key, value) : REFUSED;
        }
        if (present) {
            table.setEntry(disk, place, key, value);
        } else {
            table.removeAt(disk, place);
        }
        return OK;
    }

    public long get(int app, int key) {
        if (!isOpen(app)) {
            return NONE;
        }
        if (apps[app].isMap) {
            int place = apps[app].table.placeOf(disk, key);
            return place == NOTHING ? NONE : apps[app].table.valueAt(disk, place);
        }
        int block = Math.floorDiv(key, Disk.WORDS);
        if (!disk.hasBlock(block) || disk.ownerOf(block) != app) {
            return NONE;
        }
        return disk.wordOf(block, Math.floorMod(key, Disk.WORDS));
    }

    public int holder(int kind, int number) {
        // A FREE page or block has the owner NOBODY, which is the answer REFUSED.
        if (kind == 0) {
            return memory.hasPage(number) ? memory.ownerOf(number) : REFUSED;
        }
        if (kind == 1) {
            return disk.hasBlock(number) ? disk.ownerOf(number) : REFUSED;
        }
        if (!isIn(kind, FIRST_LIST_KIND, FIRST_LIST_KIND + APPS - 1)) {
            return REFUSED;
        }
        PageList list = apps[kind - FIRST_LIST_KIND].pagesTakenAway;
        return list.keeps(number) ? list.beforeLast(number) : REFUSED;
    }

    public int count(int what, int app) {
        switch (what) {
            case 0:
                return memory.pagesOf(NOBODY);
            case 1:
                return disk.blocksOf(NOBODY);
            case 2:
                return framesLost;
            default:
                return isApp(app) ? countOf(app, what) : REFUSED;
        }
    }

    // A closed application holds nothing, so each of these is 0 for it.
    private int countOf(int app, int what) {
        switch (what) {
            case 3:
                return memory.pagesOf(app);
            case 4:
                return memory.namedPagesOf(app);
            case 5:
                return apps[app].frames.length;
            case 6:
                return disk.blocksOf(app);
            case 7:
                return 1 + filterOrder.placeOf(app);
            case 8:
                return apps[app].table.length;
            default:
                return REFUSED;
        }
    }

    private static int clampSize(int wanted) {
        return Math.max(LEAST_SIZE, Math.min(GREATEST_SIZE, wanted));
    }

    private static boolean isIn(int number, int least, int greatest) {
        return number >= least && number <= greatest;
    }

    private static boolean isApp(int app) {
        return isIn(app, 0, APPS - 1);
    }

    private static boolean isLayout(int first, int links) {
        return isIn(first, 0, Disk.WORDS - 1) && isIn(links, 0, Disk.WORDS - first);
    }

    private boolean isOpen(int app) {
        return isApp(app) && apps[app].isOpen;
    }

    private boolean owns(int app, int page) {
        return isOpen(app) && memory.hasPage(page) && memory.ownerOf(page) == app;
    }

    private boolean mayUse(int app, int page, int word, int right) {
        if (!isOpen(app) || !memory.hasPage(page) || !isIn(word, 0, Memory.WORDS - 1)) {
            return false;
        }
        return memory.ownerOf(page) == app || memory.rightOf(page, app) >= right;
    }

    private int firstAccepting() {
        for (int place = 0; place < filterOrder.length; place++) {
            int app = filterOrder.appAt(place);
            if (apps[app].filter.accepts(arriving)) {
                return app;
            }
        }
        return NOBODY;
    }

    private int deliver(int app) {
        if (apps[app].frames.isFull()) {
            framesLost++;
            return LOST;
        }
        apps[app].frames.append(arriving);
        return app;
    }

    private int relink(int app, int block, int word, int value) {
        if (value != NOTHING && !disk.hasBlock(value)) {
            return REFUSED;
        }
        int held = disk.wordOf(block, word);
        if (held == value) {
            return OK;
        }
        int firstLink = apps[app].firstLink;
        int links = apps[app].links;
        if (held != NOTHING && disk.namesBlocks(held, firstLink, links)) {
            return BUSY;
        }
        if (value != NOTHING && !disk.isFree(value)) {
            return TAKEN;
        }
        if (held != NOTHING) {
            disk.free(held);
        }
        if (value != NOTHING) {
            disk.bind(value, app, firstLink, links);
        }
        disk.setWord(block, word, value);
        return OK;
    }

    /** What the kernel keeps of one application beside its pages and blocks. */
    private static final class Application {
        private final PageList pagesTakenAway;
        private final FrameQueue frames;
        private final EntryTable table;
        private Program draft;
        private Program filter;
        private boolean isOpen;
        private boolean isMap;
        private int firstLink;
        private int links;

        Application() {
            pagesTakenAway = new PageList();
            frames = new FrameQueue();
            table = new EntryTable();
            draft = new Program();
            filter = new Program();
            isOpen = false;
            isMap = false;
            firstLink = 0;
            links = 0;
        }

        // A map's layout is no concern of the caller's, so what it said of one is dropped.
        void begin(boolean map, int first, int wantedLinks) {
            isOpen = true;
            isMap = map;
            firstLink = map ? 0 : first;
            links = map ? 0 : wantedLinks;
            pagesTakenAway.clear();
        }

        // The list of pages taken away outlives the application: it can be asked for until begin.
        void end() {
            isOpen = false;
            draft.clear();
            filter.clear();
            frames.clear();
            table.clear();
        }

        boolean isLink(int word) {
            return word >= firstLink && word < firstLink + links;
        }

        // The two programs change places so that no new one has to be made.
        void draftBecomesFilter() {
            Program former = filter;
            filter = draft;
            draft = former;
            draft.clear();
        }
    }

    /** The pages, who may use them, and the clock that their deadlines are told by. */
    private static final class Memory {
        private static final int WORDS = 4;
        private static final int PAGES_LEFT_UNNAMED = 2;

        private final int size;
        private final int[] words;
        private final int[] owners;
        private final int[] rights;
        private final int[] takings;
        private final boolean[] named;
        private final int[] deadlines;
        private int takingsSoFar;
        private int clock;

        Memory(int pages) {
            size = pages;
            words = new int[pages * WORDS];
            owners = new int[pages];
            rights = new int[pages * APPS];
            takings = new int[pages];
            named = new boolean[pages];
            deadlines = new int[pages];
            takingsSoFar = 0;
            clock = 0;
            for (int page = 0; page < pages; page++) {
                owners[page] = NOBODY;
            }
        }

        boolean hasPage(int page) {
            return page >= 0 && page < size;
        }

        int ownerOf(int page) {
            return owners[page];
        }

        int leastFree() {
            for (int page = 0; page < size; page++) {
                if (owners[page] == NOBODY) {
                    return page;
                }
            }
            return NOTHING;
        }

        int pagesOf(int app) {
            int found = 0;
            for (int page = 0; page < size; page++) {
                if (owners[page] == app) {
                    found++;
                }
            }
            return found;
        }

        int namedPagesOf(int app) {
            int found = 0;
            for (int page = 0; page < size; page++) {
                if (owners[page] == app && named[page]) {
                    found++;
                }
            }
            return found;
        }

        void bind(int page, int app) {
            owners[page] = app;
            takings[page] = takingsSoFar;
            takingsSoFar++;
            for (int word = 0; word < WORDS; word++) {
                setWord(page, word, 0);
            }
        }

        void free(int page) {
            owners[page] = NOBODY;
            named[page] = false;
            for (int app = 0; app < APPS; app++) {
                setRight(page, app, 0);
            }
        }

        void forget(int app) {
            for (int page = 0; page < size; page++) {
                setRight(page, app, 0);
                if (owners[page] == app) {
                    free(page);
                }
            }
        }

        int rightOf(int page, int app) {
            return rights[page * APPS + app];
        }

        void setRight(int page, int app, int right) {
            rights[page * APPS + app] = right;
        }

        int wordOf(int page, int word) {
            return words[page * WORDS + word];
        }

        void setWord(int page, int word, int value) {
            words[page * WORDS + word] = value;
        }

        int pageToName(int app) {
            int unnamed = 0;
            int last = NOTHING;
            for (int page = 0; page < size; page++) {
                if (owners[page] == app && !named[page]) {
                    unnamed++;
                    if (last == NOTHING || takings[page] > takings[last]) {
                        last = page;
                    }
                }
            }
            return unnamed > PAGES_LEFT_UNNAMED ? last : NOTHING;
        }

        void nameAfter(int page, int delay) {
            named[page] = true;
            deadlines[page] = clock + delay;
        }

        void passTime(int time) {
            clock += time;
        }

        int firstDue() {
            int first = NOTHING;
            for (int page = 0; page < size; page++) {
                if (named[page] && deadlines[page] <= clock) {
                    if (first == NOTHING || deadlines[page] < deadlines[first]) {
                        first = page;
                    }
                }
            }
            return first;
        }
    }

    /** The last pages taken away from an application. */
    private static final class PageList {
        private static final int KEPT = 8;

        private final int[] pages;
        private int length;
        private int end;

        PageList() {
            pages = new int[KEPT];
            length = 0;
            end = 0;
        }

        void clear() {
            length = 0;
            end = 0;
        }

        void append(int page) {
            pages[end] = page;
            end = (end + 1) % KEPT;
            length = Math.min(KEPT, length + 1);
        }

        boolean keeps(int number) {
            return number >= 0 && number < length;
        }

        int beforeLast(int number) {
            return pages[(end + KEPT - 1 - number) % KEPT];
        }
    }

    /** A filter program, as a draft or installed. */
    private static final class Program {
        private static final int LIMIT = 16;
        private static final int LOAD = 0;
        private static final int LOAD_FROM_X = 1;
        private static final int LOAD_LENGTH = 2;
        private static final int SET_X = 3;
        private static final int ADD = 4;
        private static final int MASK = 5;
        private static final int SHIFT = 6;
        private static final int EQUAL = 7;
        private static final int GREATER = 8;
        private static final int COMMON_BIT = 9;
        private static final int END_BY_OPERAND = 10;
        private static final int END_BY_A = 11;
        private static final int GREATEST_OFFSET = 63;
        private static final int GREATEST_SHIFT = 31;
        private static final int GREATEST_JUMP = 15;

        private final int[] codes;
        private final int[] operands;
        private final int[] yeses;
        private final int[] noes;
        private int length;

        Program() {
            codes = new int[LIMIT];
            operands = new int[LIMIT];
            yeses = new int[LIMIT];
            noes = new int[LIMIT];
            length = 0;
        }

        static boolean isInstruction(int code, int k, int yes, int no) {
            if (!isIn(code, LOAD, END_BY_A)) {
                return false;
            }
            if (code == LOAD || code == LOAD_FROM_X) {
                return isIn(k, 0, GREATEST_OFFSET);
            }
            if (code == SHIFT) {
                return isIn(k, 0, GREATEST_SHIFT);
            }
            return !isTest(code) || isIn(yes, 0, GREATEST_JUMP) && isIn(no, 0, GREATEST_JUMP);
        }

        private static boolean isTest(int code) {
            return isIn(code, EQUAL, COMMON_BIT);
        }

        boolean isFull() {
            return length == LIMIT;
        }

        void clear() {
            length = 0;
        }

        // The jumps of what is no test are any ints: without them all can be followed alike.
        void append(int code, int k, int yes, int no) {
            codes[length] = code;
            operands[length] = k;
            yeses[length] = isTest(code) ? yes : 0;
            noes[length] = isTest(code) ? no : 0;
            length++;
        }

        boolean isSound() {
            for (int at = 0; at < length; at++) {
                int farthest = at + 1 + Math.max(yeses[at], noes[at]);
                if (codes[at] <= COMMON_BIT && farthest >= length) {
                    return false;
                }
            }
            return true;
        }

        // Every instruction is followed by a later one, so the run is at most as long as the program.
        boolean accepts(Frame frame) {
            int a = 0;
            int x = 0;
            int at = 0;
            for (int step = 0; step < LIMIT && at < length; step++) {
                int code = codes[at];
                int k = operands[at];
                if (code == END_BY_OPERAND) {
                    return k != 0;
                }
                if (code == END_BY_A) {
                    return a != 0;
                }
                if (code == LOAD || code == LOAD_FROM_X) {
                    long index = code == LOAD ? k : (long) x + k;
                    if (!frame.hasByte(index)) {
                        return false;
                    }
                    a = frame.byteAt((int) index);
                } else if (code == LOAD_LENGTH) {
                    a = frame.length;
                } else if (code == SET_X) {
                    x = a;
                } else {
                    a = reckon(code, a, k);
                }
                at += 1 + (holds(code, a, k) ? yeses[at] : noes[at]);
            }
            return false;
        }

        private static int reckon(int code, int a, int k) {
            switch (code) {
                case ADD:
                    return a + k;
                case MASK:
                    return a & k;
                case SHIFT:
                    return a >>> k;
                default:
                    return a;
            }
        }

        private static boolean holds(int code, int a, int k) {
            switch (code) {
                case EQUAL:
                    return a == k;
                case GREATER:
                    return a > k;
                case COMMON_BIT:
                    return (a & k) != 0;
                default:
                    return false;
            }
        }
    }

    /** The applications with a filter, the one that installed first standing first. */
    private static final class FilterOrder {
        private final int[] appsInOrder;
        private int length;

        FilterOrder() {
            appsInOrder = new int[APPS];
            length = 0;
        }

        int appAt(int place) {
            return appsInOrder[place];
        }

        int placeOf(int app) {
            for (int place = 0; place < length; place++) {
                if (appsInOrder[place] == app) {
                    return place;
                }
            }
            return NOTHING;
        }

        // The caller drops the application first, so there is always room.
        void append(int app) {
            appsInOrder[length] = app;
            length++;
        }

        void drop(int app) {
            int place = placeOf(app);
            if (place == NOTHING) {
                return;
            }
            length--;
            for (int at = place; at < length; at++) {
                appsInOrder[at] = appsInOrder[at + 1];
            }
        }
    }

    /** The bytes of one frame. */
    private static final class Frame {
        private static final int LIMIT = 16;

        private final int[] bytes;
        private int length;

        Frame() {
            bytes = new int[LIMIT];
            length = 0;
        }

        boolean isFull() {
            return length == LIMIT;
        }

        void clear() {
            length = 0;
        }

        void append(int value) {
            bytes[length] = value;
            length++;
        }

        boolean hasByte(long index) {
            return index >= 0 && index < length;
        }

        int byteAt(int index) {
            return bytes[index];
        }

        void copyFrom(Frame other) {
            System.arraycopy(other.bytes, 0, bytes, 0, other.length);
            length = other.length;
        }
    }

    /** The frames given to an application; its frames are used again and again, round and round. */
    private static final class FrameQueue {
        private static final int LIMIT = 4;

        private final Frame[] frames;
        private int first;
        private int length;

        FrameQueue() {
            frames = new Frame[LIMIT];
            first = 0;
            length = 0;
            for (int at = 0; at < LIMIT; at++) {
                frames[at] = new Frame();
            }
        }

        boolean isFull() {
            return length == LIMIT;
        }

        void clear() {
            length = 0;
        }

        void append(Frame frame) {
            frames[(first + length) % LIMIT].copyFrom(frame);
            length++;
        }

        Frame oldest() {
            return frames[first];
        }

        void dropOldest() {
            first = (first + 1) % LIMIT;
            length--;
        }
    }

    /** The blocks and to whom they belong. */
    private static final class Disk {
        private static final int WORDS = 8;

        private final int size;
        private final int[] words;
        private final int[] owners;

        Disk(int blocks) {
            size = blocks;
            words = new int[blocks * WORDS];
            owners = new int[blocks];
            for (int block = 0; block < blocks; block++) {
                owners[block] = NOBODY;
            }
        }

        boolean hasBlock(int block) {
            return block >= 0 && block < size;
        }

        int ownerOf(int block) {
            return owners[block];
        }

        boolean isFree(int block) {
            return owners[block] == NOBODY;
        }

        int leastFree() {
            for (int block = 0; block < size; block++) {
                if (isFree(block)) {
                    return block;
                }
            }
            return NOTHING;
        }

        int blocksOf(int app) {
            int found = 0;
            for (int block = 0; block < size; block++) {
                if (owners[block] == app) {
                    found++;
                }
            }
            return found;
        }

        void bind(int block, int app, int firstLink, int links) {
            owners[block] = app;
            for (int word = 0; word < WORDS; word++) {
                boolean isLink = word >= firstLink && word < firstLink + links;
                setWord(block, word, isLink ? NOTHING : 0);
            }
        }

        void free(int block) {
            owners[block] = NOBODY;
        }

        void freeAllOf(int app) {
            for (int block = 0; block < size; block++) {
                if (owners[block] == app) {
                    free(block);
                }
            }
        }

        boolean namesBlocks(int block, int firstLink, int links) {
            for (int word = firstLink; word < firstLink + links; word++) {
                if (wordOf(block, word) != NOTHING) {
                    return true;
                }
            }
            return false;
        }

        int wordOf(int block, int word) {
            return words[block * WORDS + word];
        }

        void setWord(int block, int word, int value) {
            words[block * WORDS + word] = value;
        }
    }

    /** The entries of a map, which lie in its data blocks: a key, its value, the next key. */
    private static final class EntryTable {
        private static final int DATA_BLOCKS = 7;
        private static final int ENTRIES_A_BLOCK = 4;

        private final int[] dataBlocks;
        private int length;

        EntryTable() {
            dataBlocks = new int[DATA_BLOCKS];
            length = 0;
        }

        void clear() {
            length = 0;
        }

        int placeOf(Disk disk, int key) {
            for (int place = 0; place < length; place++) {
                if (keyAt(disk, place) == key) {
                    return place;
                }
            }
            return NOTHING;
        }

        int append(Disk disk, int app, int key, int value) {
            if (length == DATA_BLOCKS * ENTRIES_A_BLOCK) {
                return FULL;
            }
            if (length % ENTRIES_A_BLOCK == 0) {
                int block = disk.leastFree();
                if (block == NOTHING) {
                    return FULL;
                }
                disk.bind(block, app, 0, 0);
                dataBlocks[length / ENTRIES_A_BLOCK] = block;
            }
            setEntry(disk, length, key, value);
            length++;
            return OK;
        }

        void removeAt(Disk disk, int place) {
            int last = length - 1;
            setEntry(disk, place, keyAt(disk, last), valueAt(disk, last));
            if (last % ENTRIES_A_BLOCK == 0) {
                disk.free(blockOf(last));
            }
            length = last;
        }

        int keyAt(Disk disk, int place) {
            return disk.wordOf(blockOf(place), keyWordOf(place));
        }

        int valueAt(Disk disk, int place) {
            return disk.wordOf(blockOf(place), keyWordOf(place) + 1);
        }

        void setEntry(Disk disk, int place, int key, int value) {
            disk.setWord(blockOf(place), keyWordOf(place), key);
            disk.setWord(blockOf(place), keyWordOf(place) + 1, value);
        }

        private int blockOf(int place) {
            return dataBlocks[place / ENTRIES_A_BLOCK];
        }

        private static int keyWordOf(int place) {
            return 2 * (place % ENTRIES_A_BLOCK);
        }
    }
}
