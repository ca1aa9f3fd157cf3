/** NODES of "Terms", and promises 1, 11, 12, 13 and 15: about, entry, sorted and nodes. */
public final class TreeTest {
    private static final int[] NO_INDEXES = {
        -1, 2, 39, 40, Integer.MIN_VALUE, Integer.MAX_VALUE};

    public static void main(String[] args) {
        theRootAlone();
        objectsOfTheirOwn();
        numbers();
        theRoot();
        aboutKind();
        aboutDirectory();
        aboutEntries();
        aboutOctets();
        aboutPoints();
        aboutSlashes();
        aboutNoNode();
        aboutAnotherWhat();
        inTheOrderInWhichTheyCame();
        fortyEntries();
        entryFrom0On();
        entryOfNoDirectory();
        sortedByTheFoldedNames();
        sortedPointByPoint();
        sortedTheShorterFirst();
        sortedAgain();
        sortedBeside();
        sortedOfNoDirectory();
        howMany();
        Due.end();
    }

    private static void theRootAlone() {
        Due.sentence("FoldedNames(): The ROOT alone");
        FoldedNames x = new FoldedNames();
        Due.due("nodes()", x.nodes(), 1);
        Due.due("about(0, 0)", x.about(0, 0), 1);
        Due.due("about(0, 2)", x.about(0, 2), 0);
        Due.dueRow("entry(0)", k -> x.entry(0, k));
        Due.dueRow("sorted(0)", k -> x.sorted(0, k));
        for (int number = 1; number < 200; number++) {
            Due.due("about(" + number + ", 0)", x.about(number, 0), -5);
        }
        Due.dueRow("folded", x::folded);
        Due.due("walk(0)", x.walk(0), 0);
        Due.due("feed(1)", x.feed(1, 'a'), 1);
    }

    private static void objectsOfTheirOwn() {
        Due.sentence("FoldedNames(): The ROOT alone, whatever other objects have");
        FoldedNames other = Due.tree();
        Due.feed(other, "ab").fold();
        Due.feed(other, "abc");
        FoldedNames x = new FoldedNames();
        Due.due("nodes()", x.nodes(), 1);
        Due.due("folded(0)", x.folded(0), -1);
        Due.due("feed(1)", x.feed(1, 'x'), 1);
        Due.due("put", x.put(0, false), 1);
        Due.due("nodes() of the other", other.nodes(), 6);
        Due.due("feed(1) to the other", other.feed(1, 'd'), 4);
    }

    private static void numbers() {
        Due.sentence("NODES have the numbers 0 .. 199");
        FoldedNames x = Due.fullTree();
        Due.due("about(0, 0)", x.about(0, 0), 1);
        Due.due("about(199, 0)", x.about(199, 0), 1);
        Due.due("about(199, 1)", x.about(199, 1), 4);
        Due.due("about(200, 0)", x.about(200, 0), -5);
        Due.due("about(-1, 0)", x.about(-1, 0), -5);
        Due.due("find the last", Due.find(x, 4, "N199"), 199);
        Due.due("remove(199)", x.remove(199), 4);
        Due.due("put", Due.put(x, 1, true, "a"), -4);
        Due.due("put", Due.put(x, 199, true, "a"), -5);
        Due.due("put", Due.put(x, 198, true, "a"), 199);
        Due.due("put", Due.put(x, 199, true, "a"), -4);
    }

    private static void theRoot() {
        Due.sentence("0 is the ROOT, a DIRECTORY without a NAME");
        FoldedNames x = Due.tree();
        Due.due("about(0, 0)", x.about(0, 0), 1);
        Due.due("about(0, 3)", x.about(0, 3), 0);
        Due.due("about(0, 4)", x.about(0, 4), 0);
        Due.due("entry(0, 0)", x.entry(0, 0), 1);
    }

    private static void dueAbout(FoldedNames x, int what, int... want) {
        for (int node = 0; node < want.length; node++) {
            Due.due("about(" + node + ", " + what + ")", x.about(node, what), want[node]);
        }
    }

    private static void aboutKind() {
        Due.sentence("0 a LEAF, 1 a DIRECTORY (what = 0)");
        dueAbout(Due.tree(), 0, 1, 1, 1, 0, 0, 1);
    }

    private static void aboutDirectory() {
        Due.sentence("in which DIRECTORY it is (1; NONE of the ROOT)");
        dueAbout(Due.tree(), 1, FoldedNames.NONE, 0, 1, 2, 0, 1);
    }

    private static void aboutEntries() {
        Due.sentence("how many ENTRIES it has (2)");
        dueAbout(Due.tree(), 2, 2, 2, 1, 0, 0, 0);
        Due.due("about(5, 2)", Due.treeWithoutRoom().about(5, 2), 40);
        FoldedNames x = Due.tree();
        x.remove(3);
        x.move(5, 0);
        dueAbout(x, 2, 3, 1, 0);
    }

    private static void aboutOctets() {
        Due.sentence("octets of its NAME (3)");
        FoldedNames x = Due.tree();
        Due.put(x, 5, false, "\u00c9\u20ac");
        Due.put(x, 5, false, "a".repeat(60));
        dueAbout(x, 3, 0, 1, 1, 1, 4, 1, 5, 60);
        Due.move(x, 7, 5, "a");
        Due.due("about(7, 3)", x.about(7, 3), 1);
    }

    private static void aboutPoints() {
        Due.sentence("POINTS of its NAME folded (4)");
        FoldedNames x = Due.tree();
        Due.put(x, 5, false, "\u00c9\u20ac");
        Due.put(x, 5, false, "\u00c9".repeat(30));
        Due.put(x, 5, false, "\ud83d\ude00".repeat(15));
        dueAbout(x, 4, 0, 1, 1, 1, 4, 1, 3, 60, 15);
        Due.move(x, 7, 5, "\u00c9");
        Due.due("about(7, 4)", x.about(7, 4), 2);
    }

    private static void aboutSlashes() {
        Due.sentence("how many / lead to it from the ROOT (5; 0 of the ROOT)");
        dueAbout(Due.tree(), 5, 0, 1, 2, 3, 1, 2);
        FoldedNames x = Due.chain(199);
        Due.due("about(199, 5)", x.about(199, 5), 199);
        Due.due("about(198, 5)", x.about(198, 5), 198);
        Due.due("move(100, 1)", Due.move(x, 100, 1, "m"), 99);
        Due.due("about(99, 5)", x.about(99, 5), 99);
        Due.due("about(100, 5)", x.about(100, 5), 2);
        Due.due("about(199, 5)", x.about(199, 5), 101);
    }

    private static void aboutNoNode() {
        Due.sentence("about: NO_NODE: it is not there");
        FoldedNames x = Due.tree();
        for (int what = 0; what <= 5; what++) {
            for (int number : Due.NO_NUMBERS) {
                Due.due("about(" + number + ", " + what + ")", x.about(number, what), -5);
            }
        }
        x.remove(3);
        Due.due("about(3, 3) of what is gone", x.about(3, 3), -5);
    }

    private static void aboutAnotherWhat() {
        Due.sentence("about: IllegalArgumentException: another what");
        FoldedNames x = Due.tree();
        int[] others = {-1, 6, 7, Integer.MIN_VALUE, Integer.MAX_VALUE};
        for (int what : others) {
            Due.dueThrow("about(0, " + what + ")", () -> x.about(0, what));
            Due.dueThrow("about(4, " + what + ")", () -> x.about(4, what));
            Due.dueThrow("about(9, " + what + ")", () -> x.about(9, what));
            Due.dueThrow("about(-1, " + what + ")", () -> x.about(-1, what));
        }
    }

    private static void inTheOrderInWhichTheyCame() {
        Due.sentence("ENTRIES of a DIRECTORY stand in the order in which they came into it");
        FoldedNames x = new FoldedNames();
        Due.put(x, 0, false, "c");
        Due.put(x, 0, false, "a");
        Due.put(x, 0, false, "b");
        Due.dueRow("entry(0)", k -> x.entry(0, k), 1, 2, 3);
        x.remove(1);
        Due.dueRow("entry(0)", k -> x.entry(0, k), 2, 3);
        Due.put(x, 0, true, "0");
        Due.dueRow("entry(0)", k -> x.entry(0, k), 2, 3, 1);
        x.move(2, 1);
        Due.dueRow("entry(0)", k -> x.entry(0, k), 3, 1);
        x.move(2, 0);
        Due.dueRow("entry(0)", k -> x.entry(0, k), 3, 1, 2);
    }

    private static void fortyEntries() {
        Due.sentence("a DIRECTORY has at most 40 ENTRIES");
        FoldedNames x = Due.treeWithoutRoom();
        Due.due("about(5, 2)", x.about(5, 2), 40);
        Due.due("put", Due.put(x, 5, false, "more"), -4);
        Due.due("move", Due.move(x, 4, 5, "more"), -4);
        Due.due("about(5, 2)", x.about(5, 2), 40);
        for (int k = 0; k < 40; k++) {
            Due.due("entry(5, " + k + ")", x.entry(5, k), k + 6);
        }
        Due.due("entry(5, 40)", x.entry(5, 40), -1);
        Due.due("sorted(5, 40)", x.sorted(5, 40), -1);
        Due.due("sorted(5, 39)", x.sorted(5, 39), 15);
        Due.due("put elsewhere", Due.put(x, 2, false, "more"), 46);
    }

    private static void entryFrom0On() {
        Due.sentence("ENTRY k, from 0 on, of a DIRECTORY; NONE when there is none");
        FoldedNames x = Due.tree();
        Due.dueRow("entry(0)", k -> x.entry(0, k), 1, 4);
        Due.dueRow("entry(1)", k -> x.entry(1, k), 2, 5);
        Due.dueRow("entry(5), which is empty", k -> x.entry(5, k));
        for (int k : NO_INDEXES) {
            Due.due("entry(1, " + k + ")", x.entry(1, k), -1);
        }
    }

    private static void entryOfNoDirectory() {
        Due.sentence("entry: NO_NODE");
        FoldedNames x = Due.tree();
        for (int number : Due.NO_NUMBERS) {
            Due.due("entry(" + number + ", 0)", x.entry(number, 0), -5);
        }
        Due.due("entry(4, 0) of a LEAF", x.entry(4, 0), -5);
        Due.due("entry(4, -1) of a LEAF", x.entry(4, -1), -5);
        x.remove(5);
        Due.due("entry(5, 0) of what is gone", x.entry(5, 0), -5);
    }

    private static FoldedNames withNames(String... names) {
        FoldedNames x = new FoldedNames();
        for (String name : names) {
            Due.put(x, 0, true, name);
        }
        return x;
    }

    private static void dueSorted(FoldedNames x, int... want) {
        Due.dueRow("sorted(0)", k -> x.sorted(0, k), want);
    }

    private static void sortedByTheFoldedNames() {
        Due.sentence("by the folded NAMES");
        // As they came, great letters would stand before small ones, and 769 before 803.
        dueSorted(withNames("a", "B", "Z", "c"), 1, 2, 4, 3);
        dueSorted(withNames("f", "\u00c9", "e"), 3, 2, 1);
        dueSorted(withNames("a\u0301\u0327", "a\u0323"), 2, 1);
        dueSorted(withNames("\u0178", "z", "\u00fe"), 2, 3, 1);
    }

    private static void sortedPointByPoint() {
        Due.sentence("POINT by POINT, the lesser first");
        dueSorted(withNames("ba", "ab", "aa", "bb"), 3, 2, 1, 4);
        dueSorted(withNames("b", "az", "a1", "1"), 4, 3, 2, 1);
        // POINTS as numbers, however many octets or halves tell them.
        dueSorted(withNames("\ud800\udc00", "\uffff", "\u0800", "\u07ff", "\u007f", "\ue000"),
                5, 4, 3, 6, 2, 1);
        dueSorted(withNames("\u00c6", "z", "\udbff\udfff", "\u0001"), 4, 2, 1, 3);
    }

    private static void sortedTheShorterFirst() {
        Due.sentence("the shorter first, if it begins the other");
        dueSorted(withNames("abc", "ab", "a", "b", "abcd"), 3, 2, 1, 5, 4);
        dueSorted(withNames("\u00c9", "e"), 2, 1);
        dueSorted(withNames("e\u0301a", "\u00c9", "ez", "E"), 4, 3, 2, 1);
        dueSorted(withNames("a\u0001", "A"), 2, 1);
        String longest = "a".repeat(59);
        dueSorted(withNames(longest + "b", longest + "a", longest), 3, 2, 1);
    }

    private static void sortedAgain() {
        Due.sentence("ENTRY k by the folded NAMES: as they are now");
        FoldedNames x = withNames("c", "a", "b");
        dueSorted(x, 2, 3, 1);
        Due.move(x, 2, 0, "D");
        dueSorted(x, 3, 1, 2);
        x.remove(1);
        dueSorted(x, 3, 2);
        Due.put(x, 0, true, "C");
        dueSorted(x, 3, 1, 2);
        x.move(3, 1);
        dueSorted(x, 1, 2);
        x.move(3, 0);
        dueSorted(x, 3, 1, 2);
    }

    private static void sortedBeside() {
        Due.sentence("sorted: NONE");
        FoldedNames x = Due.tree();
        for (int k : NO_INDEXES) {
            Due.due("sorted(1, " + k + ")", x.sorted(1, k), -1);
        }
        Due.dueRow("sorted(5), which is empty", k -> x.sorted(5, k));
    }

    private static void sortedOfNoDirectory() {
        Due.sentence("sorted: NO_NODE");
        FoldedNames x = Due.tree();
        for (int number : Due.NO_NUMBERS) {
            Due.due("sorted(" + number + ", 0)", x.sorted(number, 0), -5);
        }
        Due.due("sorted(4, 0) of a LEAF", x.sorted(4, 0), -5);
        Due.due("sorted(4, -1) of a LEAF", x.sorted(4, -1), -5);
        x.remove(5);
        Due.due("sorted(5, 0) of what is gone", x.sorted(5, 0), -5);
    }

    private static void howMany() {
        Due.sentence("How many NODES there are");
        FoldedNames x = new FoldedNames();
        Due.due("nodes() of a new object", x.nodes(), 1);
        Due.put(x, 0, true, "d");
        Due.due("nodes() behind put", x.nodes(), 2);
        Due.put(x, 0, true, "D");
        Due.due("nodes() behind put that is refused", x.nodes(), 2);
        Due.put(x, 1, false, "l");
        x.remove(1);
        Due.due("nodes() behind remove that is refused", x.nodes(), 3);
        x.move(2, 0);
        Due.due("nodes() behind move", x.nodes(), 3);
        x.remove(1);
        Due.due("nodes() behind remove", x.nodes(), 2);
        FoldedNames full = Due.fullTree();
        Due.due("nodes() of all", full.nodes(), 200);
        Due.put(full, 150, true, "more");
        Due.due("nodes() behind put without room", full.nodes(), 200);
    }
}
