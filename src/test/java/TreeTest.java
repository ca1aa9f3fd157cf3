/** Promises 1 and 6 to 15: the tree of NODES. */
public final class TreeTest {
    private static final int NONE = -1;
    private static final int WRONG = -2;
    private static final int THERE = -3;
    private static final int ROOM = -4;
    private static final int NO_NODE = -5;
    private static final int FULL = -6;
    private static final int[] NO_NUMBERS = {
        -1, 199, 200, Integer.MIN_VALUE, Integer.MAX_VALUE};

    public static void main(String[] args) {
        newObject();
        putting();
        wrongNames();
        leastFreeNumber();
        roomOfNodes();
        roomOfEntries();
        finding();
        walking();
        walkingBehindLeaves();
        moving();
        movingInOrder();
        movingWithoutRoom();
        removing();
        telling();
        depths();
        ordering();
        letters();
        tapeUsedUp();
        Due.end();
    }

    private static FoldedNames tree() {
        // 1 d, 2 d/e, 3 d/e/f, 4 leaf, 5 d/g
        FoldedNames x = new FoldedNames();
        Due.put(x, 0, true, "d");
        Due.put(x, 1, true, "e");
        Due.put(x, 2, false, "f");
        Due.put(x, 0, false, "leaf");
        Due.put(x, 1, true, "g");
        return x;
    }

    private static void newObject() {
        FoldedNames x = new FoldedNames();
        Due.due("nodes() of a new object", x.nodes(), 1);
        Due.due("about(0, 0) of a new object", x.about(0, 0), 1);
        Due.due("about(0, 2) of a new object", x.about(0, 2), 0);
        Due.due("entry(0, 0) of a new object", x.entry(0, 0), NONE);
        Due.due("about(1, 0) of a new object", x.about(1, 0), NO_NODE);
        Due.due("check() of a new object", x.check(), NONE);
        Due.due("folded(0) of a new object", x.folded(0), NONE);
    }

    private static void putting() {
        FoldedNames x = new FoldedNames();
        Due.due("put Caf\u00e9", Due.put(x, 0, true, "Caf\u00e9"), 1);
        Due.due("put CAFE + mark", Due.put(x, 0, false, "CAFE\u0301"), THERE);
        Due.due("put cafe", Due.put(x, 0, false, "cafe"), 2);
        Due.due("put in a DIRECTORY of its own", Due.put(x, 1, false, "caf\u00c9"), 3);
        Due.due("put in a LEAF", Due.put(x, 2, false, "x"), NO_NODE);
        Due.due("put in a LEAF with a wrong name", Due.put(x, 2, false, "."), NO_NODE);
        for (int number : NO_NUMBERS) {
            Due.due("put in " + number, Due.put(x, number, true, "x"), NO_NODE);
        }
        Due.due("nodes() after puts", x.nodes(), 4);
        Due.due("entry(0, 0)", x.entry(0, 0), 1);
        Due.due("entry(0, 1)", x.entry(0, 1), 2);
        Due.due("entry(0, 2)", x.entry(0, 2), NONE);
        Due.due("entry(1, 0)", x.entry(1, 0), 3);
        Due.due("about(1, 0)", x.about(1, 0), 1);
        Due.due("about(2, 0)", x.about(2, 0), 0);
    }

    private static void wrongNames() {
        byte[][] wrong = {
            {}, Due.utf8("."), Due.utf8(".."), Due.utf8("/"), Due.utf8("a/b"), Due.utf8("a/"),
            Due.utf8("a\u0000"), Due.utf8("\u0000"), Due.octets(97, 195), Due.octets(128),
            Due.octets(237, 160, 128), Due.utf8("a".repeat(61)), Due.utf8("\u00e9".repeat(31))};
        FoldedNames x = new FoldedNames();
        Due.put(x, 0, true, "d");
        for (int i = 0; i < wrong.length; i++) {
            Due.due("put of wrong name " + i, Due.feed(x, wrong[i]).put(0, true), WRONG);
            Due.due("find of wrong name " + i, Due.feed(x, wrong[i]).find(0), WRONG);
            if (wrong[i].length > 0) {
                Due.due("move to wrong name " + i, Due.feed(x, wrong[i]).move(1, 0), WRONG);
            }
        }
        Due.due("nodes() after wrong names", x.nodes(), 2);
        String[] right = {"...", ".a", "a.", "..a", " ", "\\", "a".repeat(60), "\u00e9".repeat(30)};
        for (int i = 0; i < right.length; i++) {
            Due.due("put of right name " + i, Due.put(x, 1, false, right[i]), i + 2);
        }
        Due.due("about(8, 3) of 60 octets", x.about(8, 3), 60);
        Due.due("about(8, 4) of 60 octets", x.about(8, 4), 60);
        Due.due("about(9, 3) of 30 letters", x.about(9, 3), 60);
        Due.due("about(9, 4) of 30 letters", x.about(9, 4), 60);
        Due.due("find of 30 letters told otherwise", Due.find(x, 1, "\u00c9".repeat(30)), 9);
        Due.due("letter(9, 1, 59)", x.letter(9, 1, 59), 769);
    }

    private static void leastFreeNumber() {
        FoldedNames x = tree();
        Due.due("remove(3)", x.remove(3), 2);
        Due.due("remove(2)", x.remove(2), 1);
        Due.due("put takes 2", Due.put(x, 0, false, "n"), 2);
        Due.due("about(2, 0) is a LEAF now", x.about(2, 0), 0);
        Due.due("put takes 3", Due.put(x, 5, true, "longer"), 3);
        Due.due("about(3, 0) is a DIRECTORY now", x.about(3, 0), 1);
        Due.due("about(3, 2)", x.about(3, 2), 0);
        Due.due("put takes 6", Due.put(x, 0, true, "m"), 6);
    }

    private static void roomOfNodes() {
        FoldedNames x = new FoldedNames();
        for (int number = 1; number <= 199; number++) {
            int directory = (number - 1) / 40;
            Due.due("put " + number, Due.put(x, directory, true, "n" + number), number);
        }
        Due.due("nodes() of 200", x.nodes(), 200);
        Due.due("put of the 201st", Due.put(x, 50, true, "more"), ROOM);
        Due.due("put of the 201st, there", Due.put(x, 0, true, "N1"), THERE);
        Due.due("put of the 201st, wrong", Due.put(x, 0, true, ".."), WRONG);
        Due.due("put of the 201st, in none", Due.put(x, 200, true, ".."), NO_NODE);
        Due.due("move when there are 200", Due.move(x, 199, 150, "more"), 4);
        Due.due("remove(100)", x.remove(100), 2);
        Due.due("put of the 200th", Due.put(x, 2, false, "more"), 100);
        Due.due("about(100, 1)", x.about(100, 1), 2);
        Due.due("entry(2, 39)", x.entry(2, 39), 100);
        Due.due("nodes() of 200 again", x.nodes(), 200);
    }

    private static void roomOfEntries() {
        FoldedNames x = new FoldedNames();
        for (int number = 1; number <= 40; number++) {
            Due.due("put " + number, Due.put(x, 0, number == 1, "n" + number), number);
        }
        Due.due("put of a 41st ENTRY", Due.put(x, 0, false, "n41"), ROOM);
        Due.due("put of a 41st ENTRY, there", Due.put(x, 0, false, "N40"), THERE);
        Due.due("put elsewhere", Due.put(x, 1, false, "n41"), 41);
        Due.due("move to a full one", x.move(41, 0), ROOM);
        Due.due("about(41, 1)", x.about(41, 1), 1);
        Due.due("move to a full one, there", Due.move(x, 41, 0, "N40"), THERE);
        Due.due("move within a full one", x.move(1, 0), 0);
        Due.due("entry(0, 39)", x.entry(0, 39), 1);
        Due.due("entry(0, 0)", x.entry(0, 0), 2);
        Due.due("entry(0, 40)", x.entry(0, 40), NONE);
        Due.due("sorted(0, 39)", x.sorted(0, 39), 9);
        Due.due("sorted(0, 40)", x.sorted(0, 40), NONE);
        Due.due("about(0, 2)", x.about(0, 2), 40);
    }

    private static void finding() {
        FoldedNames x = new FoldedNames();
        Due.put(x, 0, true, "\u00c5ngstr\u00f6m\u0323");
        Due.put(x, 0, false, "\u03a3\u0391\u03a3");
        Due.put(x, 1, false, "inner");
        Due.due("find as it came", Due.find(x, 0, "\u00c5ngstr\u00f6m\u0323"), 1);
        Due.due("find told otherwise", Due.find(x, 0, "A\u030aNGSTRO\u0308M\u0323"), 1);
        Due.due("find of another", Due.find(x, 0, "angstrom"), NONE);
        Due.due("find of a beginning", Due.find(x, 0, "\u00c5ngstr\u00f6m"), NONE);
        Due.due("find of more", Due.find(x, 0, "\u00c5ngstr\u00f6m\u0323\u0301"), NONE);
        Due.due("find with a last sigma", Due.find(x, 0, "\u03c3\u03b1\u03c2"), 2);
        Due.due("find of what is deeper", Due.find(x, 0, "inner"), NONE);
        Due.due("find deeper", Due.find(x, 1, "INNER"), 3);
        Due.due("find in a LEAF", Due.find(x, 2, "x"), NO_NODE);
        Due.due("find of a wrong name in a LEAF", Due.find(x, 2, "."), NO_NODE);
        for (int number : NO_NUMBERS) {
            Due.due("find in " + number, Due.find(x, number, "x"), NO_NODE);
        }
        x.remove(2);
        Due.due("find of what is gone", Due.find(x, 0, "\u03c3\u03b1\u03c2"), NONE);
        Due.due("find in what is gone", Due.find(x, 2, "a"), NO_NODE);
    }

    private static void walking() {
        FoldedNames x = tree();
        Due.due("walk nowhere", x.walk(2), 2);
        Due.due("walk e from 1", Due.walk(x, 1, "e"), 2);
        Due.due("walk D/E/F from 0", Due.walk(x, 0, "D/E/F"), 3);
        Due.due("walk /d from 2", Due.walk(x, 2, "/d"), 1);
        Due.due("walk / from 2", Due.walk(x, 2, "/"), 0);
        Due.due("walk /// from 2", Due.walk(x, 2, "///"), 0);
        Due.due("walk //d///e// from 2", Due.walk(x, 2, "//d///e//"), 2);
        Due.due("walk . from 2", Due.walk(x, 2, "."), 2);
        Due.due("walk .. from 2", Due.walk(x, 2, ".."), 1);
        Due.due("walk ../.. from 2", Due.walk(x, 2, "../.."), 0);
        Due.due("walk ../../../.. from 2", Due.walk(x, 2, "../../../.."), 0);
        Due.due("walk .. from 0", Due.walk(x, 0, ".."), 0);
        Due.due("walk /.. from 3", Due.walk(x, 3, "/.."), 0);
        Due.due("walk ../g/./../e/f from 2", Due.walk(x, 2, "../g/./../e/f"), 3);
        Due.due("walk ...", Due.walk(x, 0, "..."), NONE);
        Due.due("walk d/x/e", Due.walk(x, 0, "d/x/e"), NONE);
        Due.due("walk with 0 in it", Due.walk(x, 0, "d/\u0000"), WRONG);
        Due.due("walk wrong octets", Due.feed(x, Due.octets(100, 47, 255)).walk(0), WRONG);
        Due.due("walk octets cut by /", Due.feed(x, Due.octets(195, 47, 169)).walk(0), WRONG);
        Due.due("walk none before wrong", Due.feed(x, Due.octets(120, 47, 255)).walk(0), NONE);
        Due.due("walk wrong before none", Due.feed(x, Due.octets(255, 47, 120)).walk(0), WRONG);
        Due.due("walk 60 octets", Due.walk(x, 0, "a".repeat(60)), NONE);
        Due.due("walk 61 octets", Due.walk(x, 0, "d/" + "a".repeat(61)), WRONG);
        Due.due("walk 200 octets", Due.walk(x, 0, "/d/..".repeat(40)), 0);
        for (int number : NO_NUMBERS) {
            Due.due("walk from " + number, Due.walk(x, number, "/"), NO_NODE);
            Due.due("walk wrong from " + number, Due.walk(x, number, "\u0000"), NO_NODE);
        }
    }

    private static void walkingBehindLeaves() {
        FoldedNames x = tree();
        Due.due("walk nowhere from a LEAF", x.walk(4), 4);
        Due.due("walk to a LEAF", Due.walk(x, 0, "LEAF"), 4);
        Due.due("walk leaf/", Due.walk(x, 0, "leaf/"), 4);
        Due.due("walk leaf//", Due.walk(x, 0, "leaf//"), 4);
        Due.due("walk leaf/a", Due.walk(x, 0, "leaf/a"), NONE);
        Due.due("walk leaf/.", Due.walk(x, 0, "leaf/."), NONE);
        Due.due("walk leaf/..", Due.walk(x, 0, "leaf/.."), NONE);
        Due.due("walk . from a LEAF", Due.walk(x, 4, "."), NONE);
        Due.due("walk .. from a LEAF", Due.walk(x, 4, ".."), NONE);
        Due.due("walk a from a LEAF", Due.walk(x, 4, "a"), NONE);
        Due.due("walk /leaf from a LEAF", Due.walk(x, 4, "/leaf"), 4);
        Due.due("walk leaf/wrong", Due.walk(x, 0, "leaf/\u0000"), WRONG);
        Due.due("walk leaf/wrong octets", Due.feed(x, Due.octets(255)).walk(4), WRONG);
        Due.due("walk leaf/61 octets", Due.walk(x, 4, "a".repeat(61)), WRONG);
        Due.due("walk leaf/a/wrong", Due.walk(x, 0, "leaf/a/\u0000"), NONE);
        Due.due("walk leaf/../wrong", Due.walk(x, 0, "leaf/../\u0000"), NONE);
    }

    private static void moving() {
        FoldedNames x = tree();
        Due.due("move 3 to 0, as it is called", x.move(3, 0), 2);
        Due.due("about(3, 1)", x.about(3, 1), 0);
        Due.due("about(2, 2)", x.about(2, 2), 0);
        Due.due("entry(0, 2)", x.entry(0, 2), 3);
        Due.due("letter(3, 0, 0) stays", x.letter(3, 0, 0), 'f');
        Due.due("move 3 to 5 with a name", Due.move(x, 3, 5, "\u00c9x"), 0);
        Due.due("letter(3, 0, 1)", x.letter(3, 0, 1), 137);
        Due.due("about(3, 3)", x.about(3, 3), 3);
        Due.due("about(3, 4)", x.about(3, 4), 3);
        Due.due("find by its new name", Due.find(x, 5, "e\u0301X"), 3);
        Due.due("find by its old name", Due.find(x, 0, "f"), NONE);
        Due.due("move 1 within 0", x.move(1, 0), 0);
        Due.due("entry(0, 0)", x.entry(0, 0), 4);
        Due.due("entry(0, 1)", x.entry(0, 1), 1);
        Due.due("move 1 within 0, great letter", Due.move(x, 1, 0, "D"), 0);
        Due.due("letter(1, 0, 0)", x.letter(1, 0, 0), 'D');
        Due.due("letter(1, 1, 0)", x.letter(1, 1, 0), 'd');
        Due.due("move 1 to another's name", Due.move(x, 1, 0, "LEAF"), THERE);
        Due.due("entry(0, 1) stays", x.entry(0, 1), 1);
        Due.due("letter(1, 0, 0) stays", x.letter(1, 0, 0), 'D');
        Due.due("move a tree", Due.move(x, 5, 2, "deep"), 1);
        Due.due("walk to what went along", Due.walk(x, 0, "d/e/deep/\u00e9x"), 3);
        Due.due("sorted(1, 0)", x.sorted(1, 0), 2);
        Due.due("sorted(1, 1)", x.sorted(1, 1), NONE);
        Due.due("nodes() stays", x.nodes(), 6);
    }

    private static void movingInOrder() {
        FoldedNames x = tree();
        Due.due("move the ROOT", Due.move(x, 0, 1, "."), NO_NODE);
        Due.due("move into a LEAF", Due.move(x, 1, 4, "."), NO_NODE);
        Due.due("move what is not there", Due.move(x, 6, 0, "a"), NO_NODE);
        for (int number : NO_NUMBERS) {
            Due.due("move " + number, Due.move(x, number, 0, "a"), NO_NODE);
            Due.due("move into " + number, Due.move(x, 1, number, "a"), NO_NODE);
        }
        Due.due("move into itself, wrong", Due.move(x, 1, 1, "."), WRONG);
        Due.due("move into itself, there", Due.move(x, 1, 1, "E"), THERE);
        Due.due("move into itself", x.move(1, 1), FULL);
        Due.due("move into itself, named", Due.move(x, 1, 1, "new"), FULL);
        Due.due("move into its own part", x.move(1, 2), FULL);
        Due.due("move into its own part, there", Due.move(x, 1, 2, "F"), THERE);
        Due.put(x, 5, false, "D");
        Due.due("move as it is called, there", x.move(1, 5), THERE);
        Due.due("move beside", x.move(2, 5), 1);
        Due.due("move back up", x.move(2, 0), 5);
        Due.due("about(1, 1) stays", x.about(1, 1), 0);
        Due.due("letter(1, 0, 0) stays", x.letter(1, 0, 0), 'd');
    }

    private static void movingWithoutRoom() {
        FoldedNames x = tree();
        for (int i = 0; i < 40; i++) {
            Due.put(x, 5, false, "n" + i);
        }
        Due.due("move into itself when it is full", x.move(5, 5), FULL);
        Due.due("move its outer one into it when it is full", x.move(1, 5), FULL);
        Due.due("move into a full one", x.move(4, 5), ROOM);
        Due.due("move into a full one, wrong", Due.move(x, 4, 5, ".."), WRONG);
        Due.due("move into a full one, there", Due.move(x, 4, 5, "N7"), THERE);
        Due.due("about(4, 1) stays", x.about(4, 1), 0);
        Due.due("about(5, 2) stays", x.about(5, 2), 40);
        x.remove(20);
        Due.due("move when there is room", x.move(4, 5), 0);
        Due.due("entry(5, 39)", x.entry(5, 39), 4);
    }

    private static void removing() {
        FoldedNames x = tree();
        Due.due("remove(0)", x.remove(0), NO_NODE);
        Due.due("remove(6)", x.remove(6), NO_NODE);
        for (int number : NO_NUMBERS) {
            Due.due("remove(" + number + ")", x.remove(number), NO_NODE);
        }
        Due.due("remove(1)", x.remove(1), FULL);
        Due.due("nodes() after nothing went", x.nodes(), 6);
        Due.due("remove(3)", x.remove(3), 2);
        Due.due("remove(3) again", x.remove(3), NO_NODE);
        Due.due("remove(2)", x.remove(2), 1);
        Due.due("entry(1, 0)", x.entry(1, 0), 5);
        Due.due("sorted(1, 0)", x.sorted(1, 0), 5);
        Due.due("entry(1, 1)", x.entry(1, 1), NONE);
        Due.due("about(2, 0)", x.about(2, 0), NO_NODE);
        Due.due("letter(2, 0, 0)", x.letter(2, 0, 0), NO_NODE);
        Due.due("entry(2, 0)", x.entry(2, 0), NO_NODE);
        Due.due("walk(2)", x.walk(2), NO_NODE);
        Due.due("nodes()", x.nodes(), 4);
        Due.feed(x, "kept");
        x.remove(5);
        Due.due("remove reads no tape", x.put(0, true), 2);
    }

    private static void telling() {
        FoldedNames x = tree();
        int[][] due = {
            {1, NONE, 2, 0, 0, 0}, {1, 0, 2, 1, 1, 1}, {1, 1, 1, 1, 1, 2}, {0, 2, 0, 1, 1, 3},
            {0, 0, 0, 4, 4, 1}, {1, 1, 0, 1, 1, 2}};
        for (int node = 0; node < due.length; node++) {
            for (int what = 0; what < 6; what++) {
                Due.due("about(" + node + ", " + what + ")", x.about(node, what), due[node][what]);
            }
        }
        Due.due("about(6, 0)", x.about(6, 0), NO_NODE);
        for (int number : NO_NUMBERS) {
            Due.due("about(" + number + ", 0)", x.about(number, 0), NO_NODE);
        }
        Due.dueThrow("about(0, -1)", () -> x.about(0, -1));
        Due.dueThrow("about(0, 6)", () -> x.about(0, 6));
        Due.dueThrow("about(1, most)", () -> x.about(1, Integer.MAX_VALUE));
        Due.dueThrow("about(1, least)", () -> x.about(1, Integer.MIN_VALUE));
        Due.put(x, 0, false, "\u00c9\u20ac");
        Due.due("about(6, 3)", x.about(6, 3), 5);
        Due.due("about(6, 4)", x.about(6, 4), 3);
    }

    private static void depths() {
        FoldedNames x = new FoldedNames();
        for (int number = 1; number <= 199; number++) {
            Due.put(x, number - 1, true, "n");
        }
        Due.due("about(199, 5)", x.about(199, 5), 199);
        Due.due("about(100, 5)", x.about(100, 5), 100);
        Due.due("move(1, 199)", x.move(1, 199), FULL);
        Due.due("move(100, 1)", Due.move(x, 100, 1, "m"), 99);
        Due.due("about(199, 5) after", x.about(199, 5), 101);
    }

    private static void ordering() {
        FoldedNames x = new FoldedNames();
        // e\u0301 begins with e and is longer; \u00c6 is 230, which is more than all plain letters.
        String[] names = {"zeta", "\u00c9", "B", "e", "a", "E\u0301a", "\u00c6", "ab", "f", "Eb"};
        int[] sorted = {5, 8, 3, 4, 10, 2, 6, 9, 1, 7};
        for (int i = 0; i < names.length; i++) {
            Due.due("put " + names[i], Due.put(x, 0, i == 0, names[i]), i + 1);
        }
        for (int k = 0; k < names.length; k++) {
            Due.due("entry(0, " + k + ")", x.entry(0, k), k + 1);
            Due.due("sorted(0, " + k + ")", x.sorted(0, k), sorted[k]);
        }
        int[] outside = {-1, names.length, Integer.MIN_VALUE, Integer.MAX_VALUE};
        for (int k : outside) {
            Due.due("entry(0, " + k + ")", x.entry(0, k), NONE);
            Due.due("sorted(0, " + k + ")", x.sorted(0, k), NONE);
        }
        Due.due("entry(2, 0) of a LEAF", x.entry(2, 0), NO_NODE);
        Due.due("sorted(2, 0) of a LEAF", x.sorted(2, 0), NO_NODE);
        Due.due("entry(2, -1) of a LEAF", x.entry(2, -1), NO_NODE);
        Due.due("entry(1, 0) of an empty one", x.entry(1, 0), NONE);
        Due.due("sorted(1, 0) of an empty one", x.sorted(1, 0), NONE);
        for (int number : NO_NUMBERS) {
            Due.due("entry(" + number + ", 0)", x.entry(number, 0), NO_NODE);
            Due.due("sorted(" + number + ", 0)", x.sorted(number, 0), NO_NODE);
        }
        x.remove(8);
        Due.move(x, 1, 0, "A!");
        Due.due("sorted(0, 0) after", x.sorted(0, 0), 5);
        Due.due("sorted(0, 1) after", x.sorted(0, 1), 1);
        Due.due("sorted(0, 2) after", x.sorted(0, 2), 3);
        Due.due("entry(0, 8) after", x.entry(0, 8), 1);
        Due.due("entry(0, 6) after", x.entry(0, 6), 9);
    }

    private static void letters() {
        FoldedNames x = new FoldedNames();
        Due.put(x, 0, false, "\u00c9\u0323B");
        int[] octets = {195, 137, 204, 163, 66, NONE};
        int[] points = {101, 803, 769, 98, NONE};
        for (int k = 0; k < octets.length; k++) {
            Due.due("letter(1, 0, " + k + ")", x.letter(1, 0, k), octets[k]);
        }
        for (int k = 0; k < points.length; k++) {
            Due.due("letter(1, 1, " + k + ")", x.letter(1, 1, k), points[k]);
        }
        int[] outside = {-1, 60, Integer.MIN_VALUE, Integer.MAX_VALUE};
        for (int k : outside) {
            Due.due("letter(1, 0, " + k + ")", x.letter(1, 0, k), NONE);
            Due.due("letter(1, 1, " + k + ")", x.letter(1, 1, k), NONE);
        }
        Due.due("letter(0, 0, 0) of the ROOT", x.letter(0, 0, 0), NONE);
        Due.due("letter(0, 1, 0) of the ROOT", x.letter(0, 1, 0), NONE);
        for (int number : NO_NUMBERS) {
            Due.due("letter(" + number + ", 0, 0)", x.letter(number, 0, 0), NO_NODE);
        }
        Due.dueThrow("letter(1, 2, 0)", () -> x.letter(1, 2, 0));
        Due.dueThrow("letter(1, -1, 0)", () -> x.letter(1, -1, 0));
        Due.dueThrow("letter(1, least, -1)", () -> x.letter(1, Integer.MIN_VALUE, -1));
    }

    private static void tapeUsedUp() {
        FoldedNames x = tree();
        Due.put(x, 0, false, "a");
        Due.due("feed after put", x.feed(1, 'a'), 1);
        x.put(0, false);
        Due.due("feed after put THERE", x.feed(1, '.'), 1);
        x.put(0, false);
        Due.due("feed after put WRONG", x.feed(1, 'a'), 1);
        x.put(77, false);
        Due.due("feed after put NO_NODE", x.feed(1, 'a'), 1);
        x.find(0);
        Due.due("feed after find", x.feed(1, 'a'), 1);
        x.find(4);
        Due.due("feed after find NO_NODE", x.feed(1, 'd'), 1);
        x.walk(0);
        Due.due("feed after walk", x.feed(1, 'd'), 1);
        x.walk(99);
        Due.due("feed after walk NO_NODE", x.feed(1, 'b'), 1);
        x.move(1, 0);
        Due.due("feed after move", x.feed(1, 'c'), 1);
        x.move(1, 2);
        Due.due("feed after move FULL", x.feed(1, 'c'), 1);
        x.move(0, 0);
        Due.due("feed after move NO_NODE", x.feed(1, 'c'), 1);
        x.nodes();
        x.entry(0, 0);
        x.sorted(0, 0);
        x.letter(1, 0, 0);
        x.about(1, 1);
        x.folded(0);
        x.remove(3);
        Due.due("feed after calls that read nothing", x.feed(1, 'c'), 2);
    }
}
