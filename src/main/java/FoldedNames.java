/**
 * Names in a tree of directories that are the same when they differ by great and small letters,
 * or by how a letter with a mark is told. The words in capitals are those of the document.
 */
public final class FoldedNames {
    public static final int NONE = -1;
    public static final int WRONG = -2;
    public static final int THERE = -3;
    public static final int ROOM = -4;
    public static final int NO_NODE = -5;
    public static final int FULL = -6;

    private static final int ROOT = 0;
    private static final int MOST_NODES = 200;
    private static final int MOST_ENTRIES = 40;
    private static final int MOST_NAME_OCTETS = 60;
    private static final int MOST_TAPE_OCTETS = 200;
    private static final int MOST_FED_OCTETS = 8;
    private static final int SLASH = 47;
    private static final int DOT = 46;

    private final Row tape;
    private final Row lastFolded;
    // The folded NAME that the call at hand asks for: a row of its own, so that FOLDED stays.
    private final Row asked;
    // A Node object is made when its number is first used, and used again after a remove.
    private final Node[] slots;
    private int count;

    public FoldedNames() {
        tape = new Row(MOST_TAPE_OCTETS);
        // No POINT becomes more POINTS than it has octets, so folding needs no longer rows.
        lastFolded = new Row(MOST_TAPE_OCTETS);
        asked = new Row(MOST_NAME_OCTETS);
        slots = new Node[MOST_NODES];
        Node root = new Node();
        root.begin(true);
        slots[ROOT] = root;
        count = 1;
    }

    public int feed(int n, long octets) throws IllegalArgumentException {
        if (n < 1 || n > MOST_FED_OCTETS) {
            throw new IllegalArgumentException("n is not 1 .. 8");
        }
        if (tape.size() + n > MOST_TAPE_OCTETS) {
            throw new IllegalArgumentException("the tape would have more than 200 octets");
        }
        for (int i = 0; i < n; i++) {
            tape.add((int) (octets >>> (8 * i)) & 255);
        }
        return tape.size();
    }

    public int check() {
        int answer = Text.wrongPlace(tape, 0, tape.size());
        tape.clear();
        return answer;
    }

    public int fold() {
        int answer = WRONG;
        if (Text.wrongPlace(tape, 0, tape.size()) == NONE) {
            Folding.foldInto(lastFolded, tape, 0, tape.size());
            answer = lastFolded.size();
        }
        tape.clear();
        return answer;
    }

    public int folded(int k) {
        return lastFolded.at(k);
    }

    public int put(int directory, boolean isDirectory) {
        int answer = putFromTape(directory, isDirectory);
        tape.clear();
        return answer;
    }

    public int find(int directory) {
        int answer = findFromTape(directory);
        tape.clear();
        return answer;
    }

    public int walk(int node) {
        int answer = walkFromTape(node);
        tape.clear();
        return answer;
    }

    public int move(int node, int directory) {
        int answer = moveFromTape(node, directory);
        tape.clear();
        return answer;
    }

    public int remove(int node) {
        Node gone = nodeAt(node);
        if (gone == null || node == ROOT) {
            return NO_NODE;
        }
        if (gone.entries.size() > 0) {
            return FULL;
        }
        detach(node, gone.parent);
        gone.isThere = false;
        count--;
        return gone.parent;
    }

    public int about(int node, int what) throws IllegalArgumentException {
        if (what < 0 || what > 5) {
            throw new IllegalArgumentException("what is not 0 .. 5");
        }
        Node asks = nodeAt(node);
        if (asks == null) {
            return NO_NODE;
        }
        switch (what) {
            case 0:
                return asks.isDirectory ? 1 : 0;
            case 1:
                return asks.parent;
            case 2:
                return asks.entries.size();
            case 3:
                return asks.name.size();
            case 4:
                return asks.foldedName.size();
            default:
                return depthOf(node);
        }
    }

    public int entry(int directory, int k) {
        Node from = directoryAt(directory);
        return from == null ? NO_NODE : from.entries.at(k);
    }

    public int sorted(int directory, int k) {
        Node from = directoryAt(directory);
        return from == null ? NO_NODE : from.entriesByName.at(k);
    }

    public int letter(int node, int which, int k) throws IllegalArgumentException {
        if (which != 0 && which != 1) {
            throw new IllegalArgumentException("which is not 0 or 1");
        }
        Node from = nodeAt(node);
        if (from == null) {
            return NO_NODE;
        }
        return which == 0 ? from.name.at(k) : from.foldedName.at(k);
    }

    public int nodes() {
        return count;
    }

    private int putFromTape(int directory, boolean isDirectory) {
        Node into = directoryAt(directory);
        if (into == null) {
            return NO_NODE;
        }
        if (!askForName(0, tape.size())) {
            return WRONG;
        }
        if (entryAsked(into) != NONE) {
            return THERE;
        }
        int number = freeNumber();
        if (number == NONE || into.entries.size() >= MOST_ENTRIES) {
            return ROOM;
        }
        Node made = slots[number];
        if (made == null) {
            made = new Node();
            slots[number] = made;
        }
        made.begin(isDirectory);
        made.takeName(tape, asked);
        attach(number, made, directory, into);
        count++;
        return number;
    }

    private int findFromTape(int directory) {
        Node in = directoryAt(directory);
        if (in == null) {
            return NO_NODE;
        }
        return askForName(0, tape.size()) ? entryAsked(in) : WRONG;
    }

    private int walkFromTape(int start) {
        if (nodeAt(start) == null) {
            return NO_NODE;
        }
        int here = tape.at(0) == SLASH ? ROOT : start;
        int from = 0;
        for (int place = 0; place <= tape.size(); place++) {
            boolean ends = place == tape.size() || tape.at(place) == SLASH;
            if (ends && place > from) {
                here = stepFrom(here, from, place);
                if (here < 0) {
                    return here;
                }
            }
            if (ends) {
                from = place + 1;
            }
        }
        return here;
    }

    /** Where the piece of THE TAPE from .. to - 1 leads to from the NODE here. */
    private int stepFrom(int here, int from, int to) {
        Node node = nodeAt(here);
        if (node == null) {
            return NO_NODE;
        }
        boolean isDots = Text.isDots(tape, from, to);
        // A wrong NAME is WRONG behind a LEAF, too: so this is asked before the LEAF is.
        if (!isDots && !askForName(from, to)) {
            return WRONG;
        }
        if (!node.isDirectory) {
            return NONE;
        }
        if (!isDots) {
            return entryAsked(node);
        }
        return to - from == 1 || here == ROOT ? here : node.parent;
    }

    private int moveFromTape(int number, int directory) {
        Node moved = nodeAt(number);
        Node into = directoryAt(directory);
        if (moved == null || number == ROOT || into == null) {
            return NO_NODE;
        }
        boolean isRenamed = tape.size() > 0;
        if (!isRenamed) {
            asked.copyFrom(moved.foldedName);
        } else if (!askForName(0, tape.size())) {
            return WRONG;
        }
        int alike = entryAsked(into);
        if (alike != NONE && alike != number) {
            return THERE;
        }
        if (isWithin(directory, number)) {
            return FULL;
        }
        int before = moved.parent;
        if (before != directory && into.entries.size() >= MOST_ENTRIES) {
            return ROOM;
        }
        detach(number, before);
        if (isRenamed) {
            moved.takeName(tape, asked);
        }
        attach(number, moved, directory, into);
        return before;
    }

    private Node nodeAt(int number) {
        if (number < 0 || number >= slots.length) {
            return null;
        }
        Node node = slots[number];
        return node != null && node.isThere ? node : null;
    }

    private Node directoryAt(int number) {
        Node node = nodeAt(number);
        return node != null && node.isDirectory ? node : null;
    }

    private int freeNumber() {
        for (int number = 0; number < slots.length; number++) {
            if (nodeAt(number) == null) {
                return number;
            }
        }
        return NONE;
    }

    /** False if the piece of THE TAPE is no NAME; else asked is that NAME folded. */
    private boolean askForName(int from, int to) {
        int size = to - from;
        if (size < 1 || size > MOST_NAME_OCTETS || Text.isDots(tape, from, to)) {
            return false;
        }
        for (int place = from; place < to; place++) {
            int octet = tape.at(place);
            if (octet == 0 || octet == SLASH) {
                return false;
            }
        }
        if (Text.wrongPlace(tape, from, to) != NONE) {
            return false;
        }
        Folding.foldInto(asked, tape, from, to);
        return true;
    }

    private int entryAsked(Node directory) {
        for (int k = 0; k < directory.entries.size(); k++) {
            int number = directory.entries.at(k);
            Node node = nodeAt(number);
            if (node != null && node.foldedName.compareWith(asked) == 0) {
                return number;
            }
        }
        return NONE;
    }

    /** Makes a NODE whose folded NAME is asked the last ENTRY; the callers saw to the room. */
    private void attach(int number, Node node, int directory, Node into) {
        node.parent = directory;
        into.entries.add(number);
        into.entriesByName.insert(placeByName(into), number);
    }

    private int placeByName(Node directory) {
        int size = directory.entriesByName.size();
        for (int k = 0; k < size; k++) {
            Node node = nodeAt(directory.entriesByName.at(k));
            if (node != null && node.foldedName.compareWith(asked) > 0) {
                return k;
            }
        }
        return size;
    }

    private void detach(int number, int directory) {
        Node from = nodeAt(directory);
        if (from != null) {
            from.entries.takeOut(number);
            from.entriesByName.takeOut(number);
        }
    }

    /** If the way up from a NODE to the ROOT comes through another one, or begins there. */
    private boolean isWithin(int number, int outer) {
        int here = number;
        for (int steps = 0; steps < MOST_NODES; steps++) {
            if (here == outer) {
                return true;
            }
            Node node = nodeAt(here);
            if (node == null) {
                return false;
            }
            here = node.parent;
        }
        return false;
    }

    private int depthOf(int number) {
        Node node = nodeAt(number);
        int depth = 0;
        while (node != null && node.parent != NONE && depth < MOST_NODES) {
            node = nodeAt(node.parent);
            depth++;
        }
        return depth;
    }

    /** A row of numbers from 0 on with fixed room, never read or written beside it. */
    private static final class Row {
        private final int[] items;
        private int size;

        Row(int room) {
            items = new int[Math.max(room, 0)];
            size = 0;
        }

        int size() {
            return size;
        }

        int at(int k) {
            return k < 0 || k >= size ? NONE : items[k];
        }

        void clear() {
            size = 0;
        }

        void add(int item) {
            insert(size, item);
        }

        void insert(int k, int item) {
            if (k < 0 || k > size || size >= items.length) {
                return;
            }
            for (int i = size; i > k; i--) {
                items[i] = items[i - 1];
            }
            items[k] = item;
            size++;
        }

        void takeOut(int item) {
            int kept = 0;
            for (int i = 0; i < size; i++) {
                if (items[i] != item) {
                    items[kept] = items[i];
                    kept++;
                }
            }
            size = kept;
        }

        void copyFrom(Row other) {
            size = Math.min(other.size, items.length);
            for (int i = 0; i < size; i++) {
                items[i] = other.items[i];
            }
        }

        /** Below 0, 0 or above 0: item by item, and the shorter first, if it begins the other. */
        int compareWith(Row other) {
            int shorter = Math.min(size, other.size);
            for (int i = 0; i < shorter; i++) {
                if (items[i] != other.items[i]) {
                    return Integer.compare(items[i], other.items[i]);
                }
            }
            return Integer.compare(size, other.size);
        }
    }

    /** What has a NODE's number: without ENTRIES, if it is a LEAF; the ROOT without a NAME. */
    private static final class Node {
        final Row name;
        final Row foldedName;
        final Row entries;
        // The ENTRIES once more, by their folded NAMES, so that no call has to sort them.
        final Row entriesByName;
        boolean isThere;
        boolean isDirectory;
        int parent;

        Node() {
            name = new Row(MOST_NAME_OCTETS);
            foldedName = new Row(MOST_NAME_OCTETS);
            entries = new Row(MOST_ENTRIES);
            entriesByName = new Row(MOST_ENTRIES);
        }

        void begin(boolean asDirectory) {
            name.clear();
            foldedName.clear();
            entries.clear();
            entriesByName.clear();
            isThere = true;
            isDirectory = asDirectory;
            parent = NONE;
        }

        void takeName(Row octets, Row points) {
            name.copyFrom(octets);
            foldedName.copyFrom(points);
        }
    }

    /** Octets read as POINTS in UTF-8. */
    private static final class Text {
        static int wrongPlace(Row octets, int from, int to) {
            int begin = from;
            for (int place = from; place < to; place++) {
                if (place == begin) {
                    int point = pointAt(octets, place, to);
                    if (point == NONE) {
                        return place;
                    }
                    begin += octetsOf(point);
                }
            }
            return NONE;
        }

        /** The POINT that begins at a place and ends before another one; NONE when none does. */
        static int pointAt(Row octets, int place, int to) {
            int first = octets.at(place);
            int more = octetsMore(first);
            if (more < 0 || place + more >= to) {
                return NONE;
            }
            // The lowest seven, five, four or three bits of the first octet.
            int point = more == 0 ? first : first & (63 >> more);
            for (int i = 1; i <= more; i++) {
                int octet = octets.at(place + i);
                if (octet < 128 || octet > 191) {
                    return NONE;
                }
                point = (point << 6) | (octet & 63);
            }
            boolean isSurrogate = point >= 55296 && point <= 57343;
            // A POINT told with more octets than it needs is refused here as well.
            if (isSurrogate || point > 1114111 || octetsOf(point) != more + 1) {
                return NONE;
            }
            return point;
        }

        static int octetsOf(int point) {
            if (point < 128) {
                return 1;
            }
            if (point < 2048) {
                return 2;
            }
            return point < 65536 ? 3 : 4;
        }

        static int octetsMore(int first) {
            if (first >= 0 && first <= 127) {
                return 0;
            }
            if (first >= 194 && first <= 223) {
                return 1;
            }
            if (first >= 224 && first <= 239) {
                return 2;
            }
            return first >= 240 && first <= 244 ? 3 : NONE;
        }

        /** If the octets are . or .. alone. */
        static boolean isDots(Row octets, int from, int to) {
            int size = to - from;
            return (size == 1 || size == 2) && octets.at(from) == DOT && octets.at(to - 1) == DOT;
        }
    }

    /** POINTS folded: taken apart, made small, and their MARKS in the order of CLASSES. */
    private static final class Folding {
        private static final int FIRST_APART = 192;
        private static final int FIRST_MARK = 768;
        private static final char WHOLE = '_';
        private static final String LETTERS =
                "AAAAAA_CEEEEIIII_NOOOOO__UUUUY__aaaaaa_ceeeeiiii_nooooo__uuuuy_y";
        private static final String MARKS =
                "012345_601240124_301234__01241__012345_601240124_301234__01241_4";
        private static final int[] MARK_STEPS = {0, 1, 2, 3, 8, 10, 39};

        /** Of a right TEXT, from .. to - 1: there just the octets inside a POINT begin none. */
        static void foldInto(Row points, Row octets, int from, int to) {
            points.clear();
            for (int place = from; place < to; place++) {
                int point = Text.pointAt(octets, place, to);
                if (point != NONE) {
                    addFolded(points, point);
                }
            }
        }

        private static void addFolded(Row points, int point) {
            int i = point - FIRST_APART;
            boolean isApart = i >= 0 && i < LETTERS.length() && LETTERS.charAt(i) != WHOLE;
            if (!isApart) {
                addInOrder(points, small(point));
                return;
            }
            addInOrder(points, small(LETTERS.charAt(i)));
            addInOrder(points, FIRST_MARK + markStep(i));
        }

        private static int markStep(int i) {
            if (i < 0 || i >= MARKS.length()) {
                return 0;
            }
            int told = MARKS.charAt(i) - '0';
            return told < 0 || told >= MARK_STEPS.length ? 0 : MARK_STEPS[told];
        }

        /** A MARK goes before the MARKS of a greater CLASS that stand last; all else goes last. */
        private static void addInOrder(Row points, int point) {
            int own = markClass(point);
            int place = points.size();
            while (own > 0 && place > 0 && markClass(points.at(place - 1)) > own) {
                place--;
            }
            points.insert(place, point);
        }

        /** 0 of what is no MARK. */
        private static int markClass(int point) {
            if (point >= FIRST_MARK && point <= 783) {
                return 230;
            }
            if (point == 803) {
                return 220;
            }
            return point == 807 || point == 808 ? 202 : 0;
        }

        private static int small(int point) {
            if (point < 256) {
                return smallLatin(point);
            }
            if (point < 384) {
                return smallLatinExtended(point);
            }
            if (point == 962) {
                return 963;
            }
            boolean isGreatGreek = point >= 913 && point <= 939 && point != 930;
            boolean isGreatCyrillic = point >= 1040 && point <= 1071;
            if (isGreatGreek || isGreatCyrillic) {
                return point + 32;
            }
            return point >= 1024 && point <= 1039 ? point + 80 : point;
        }

        private static int smallLatin(int point) {
            boolean isGreat = point >= 65 && point <= 90
                    || point >= 192 && point <= 222 && point != 215;
            if (isGreat) {
                return point + 32;
            }
            return point == 181 ? 956 : point;
        }

        private static int smallLatinExtended(int point) {
            if (point == 376) {
                return 255;
            }
            if (point == 383) {
                return 115;
            }
            boolean isEven = point % 2 == 0;
            boolean isGreat = isEven
                    ? point <= 303 || point >= 330 && point <= 375
                    : point >= 313 && point <= 328 || point >= 377 && point <= 382;
            return isGreat ? point + 1 : point;
        }
    }
}
