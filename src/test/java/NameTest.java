/** The NAME of "Terms", and promises 6, 7 and 14: put, find and letter. */
public final class NameTest {
    public static void main(String[] args) {
        rightText();
        noOctets();
        oneOctet();
        sixtyOctets();
        sixtyOneOctets();
        without0();
        withoutSlash();
        notDot();
        notTwoDots();
        noTwoAlike();
        keptAsTheyCame();
        foundUnderEveryName();
        directoryOrLeaf();
        leastNumber();
        lastEntry();
        putInNoDirectory();
        putWithoutNodes();
        putWithoutEntries();
        findsInItsDirectoryAlone();
        findsNone();
        findInNoDirectory();
        letterOfName();
        letterOfFoldedName();
        letterOfRoot();
        letterOfNone();
        letterOfAnotherWhich();
        Due.end();
    }

    /** A NAME that is wrong is so for each call that reads one. */
    private static void dueWrong(byte[] name) {
        FoldedNames x = Due.tree();
        String told = Due.told(name);
        Due.due("put of" + told, Due.feed(x, name).put(0, true), -2);
        Due.due("find of" + told, Due.feed(x, name).find(0), -2);
        if (name.length > 0) {
            Due.due("move to" + told, Due.feed(x, name).move(3, 0), -2);
        }
        Due.due("nodes()", x.nodes(), 6);
        Due.due("about(3, 1)", x.about(3, 1), 2);
    }

    private static void dueRight(byte[] name) {
        FoldedNames x = Due.tree();
        String told = Due.told(name);
        Due.due("find before of" + told, Due.feed(x, name).find(0), -1);
        Due.due("put of" + told, Due.feed(x, name).put(0, true), 6);
        Due.due("find of" + told, Due.feed(x, name).find(0), 6);
        Due.due("walk to" + told, Due.feed(x, name).walk(0), 6);
        Due.due("move to" + told, Due.feed(x, name).move(3, 6), 2);
        int[] octets = new int[name.length];
        for (int i = 0; i < name.length; i++) {
            octets[i] = name[i] & 255;
        }
        Due.dueRow("letter of" + told + ":", k -> x.letter(6, 0, k), octets);
        Due.dueRow("letter of" + told + ":", k -> x.letter(3, 0, k), octets);
    }

    private static void rightText() {
        Due.sentence("with a NAME: a right TEXT");
        dueWrong(Due.octets(128));
        dueWrong(Due.octets(97, 195));
        dueWrong(Due.octets(192, 175));
        dueWrong(Due.octets(237, 160, 128));
        dueWrong(Due.octets(244, 144, 128, 128));
        dueRight(Due.utf8("\u0001\u007f\u0080\u07ff\u0800\ud7ff\ue000\uffff"));
        dueRight(Due.utf8("\ud800\udc00\udbff\udfff"));
    }

    private static void noOctets() {
        Due.sentence("of 1 .. 60 octets: none is wrong");
        dueWrong(Due.octets());
    }

    private static void oneOctet() {
        Due.sentence("of 1 .. 60 octets: one");
        dueRight(Due.utf8("a"));
        dueRight(Due.octets(1));
        dueRight(Due.octets(127));
    }

    private static void sixtyOctets() {
        Due.sentence("of 1 .. 60 octets: sixty");
        dueRight(Due.utf8("a".repeat(60)));
        dueRight(Due.utf8("\u00e9".repeat(30)));
        dueRight(Due.utf8("\u20ac".repeat(20)));
        dueRight(Due.utf8("\ud83d\ude00".repeat(15)));
    }

    private static void sixtyOneOctets() {
        Due.sentence("of 1 .. 60 octets: sixty-one are wrong, however few POINTS they are");
        dueWrong(Due.utf8("a".repeat(61)));
        dueWrong(Due.utf8("\u00e9".repeat(30) + "a"));
        dueWrong(Due.utf8("\ud83d\ude00".repeat(15) + "a"));
        dueWrong(Due.utf8("a".repeat(200)));
    }

    private static void without0() {
        Due.sentence("without 0");
        dueWrong(Due.octets(0));
        dueWrong(Due.octets(0, 97));
        dueWrong(Due.octets(97, 0, 97));
        dueWrong(Due.octets(97, 0));
        dueRight(Due.octets(1, 1));
    }

    private static void withoutSlash() {
        Due.sentence("without /");
        dueWrong(Due.utf8("/"));
        dueWrong(Due.utf8("/a"));
        dueWrong(Due.utf8("a/a"));
        dueWrong(Due.utf8("a/"));
        dueRight(Due.utf8("-0"));
    }

    private static void notDot() {
        Due.sentence("not .");
        dueWrong(Due.utf8("."));
        dueRight(Due.utf8("-"));
        dueRight(Due.utf8(".a"));
        dueRight(Due.utf8("a."));
        dueRight(Due.utf8(" "));
    }

    private static void notTwoDots() {
        Due.sentence("and not ..");
        dueWrong(Due.utf8(".."));
        dueRight(Due.utf8("..."));
        dueRight(Due.utf8("..a"));
        dueRight(Due.utf8("a.."));
        dueRight(Due.utf8(".a."));
    }

    private static void noTwoAlike() {
        Due.sentence("no two of which have NAMES that fold to the same POINTS");
        FoldedNames x = new FoldedNames();
        Due.due("put Caf\u00e9", Due.put(x, 0, true, "Caf\u00e9"), 1);
        Due.due("put CAFE and a MARK", Due.put(x, 0, false, "CAFE\u0301"), -3);
        Due.due("put the same", Due.put(x, 0, true, "Caf\u00e9"), -3);
        Due.due("put cafe", Due.put(x, 0, false, "cafe"), 2);
        Due.due("put longer", Due.put(x, 0, false, "caf\u00e9\u0301"), 3);
        Due.due("put in another DIRECTORY", Due.put(x, 1, false, "caf\u00c9"), 4);
        Due.due("nodes()", x.nodes(), 5);
    }

    private static void keptAsTheyCame() {
        Due.sentence("names are kept as they came");
        FoldedNames x = new FoldedNames();
        Due.put(x, 0, true, "\u00c9e\u0301Z\u0178");
        Due.dueRow("letter(1, 0)", k -> x.letter(1, 0, k), 195, 137, 101, 204, 129, 90, 197, 184);
        Due.find(x, 0, "\u00e9\u00e9z\u0178");
        Due.put(x, 0, true, "\u00e9\u00e9z\u0178");
        Due.walk(x, 0, "\u00e9\u00e9z\u0178");
        x.move(1, 0);
        Due.dueRow("letter(1, 0)", k -> x.letter(1, 0, k), 195, 137, 101, 204, 129, 90, 197, 184);
    }

    private static void foundUnderEveryName() {
        Due.sentence("and found under every name that folds alike");
        FoldedNames x = new FoldedNames();
        Due.put(x, 0, true, "\u00c5ngstr\u00f6m\u0323");
        Due.put(x, 0, false, "\u03a3\u0391\u03a3");
        Due.put(x, 0, false, "\u00b5\u017f");
        Due.put(x, 0, false, "\u0416\u0401\u0100\u0139\u0178");
        Due.due("find 1", Due.find(x, 0, "\u00c5ngstr\u00f6m\u0323"), 1);
        Due.due("find 1 told otherwise", Due.find(x, 0, "A\u030aNGSTRO\u0308M\u0323"), 1);
        Due.due("find 1 told otherwise", Due.find(x, 0, "a\u030angstro\u0308M\u0323"), 1);
        Due.due("find 2 with a last sigma", Due.find(x, 0, "\u03c3\u03b1\u03c2"), 2);
        Due.due("find 3", Due.find(x, 0, "\u039cS"), 3);
        Due.due("find 4", Due.find(x, 0, "\u0436\u0451\u0101\u013a\u0178"), 4);
    }

    private static void directoryOrLeaf() {
        Due.sentence("A new NODE, a DIRECTORY or a LEAF");
        FoldedNames x = new FoldedNames();
        Due.put(x, 0, true, "d");
        Due.put(x, 0, false, "l");
        Due.due("about(1, 0)", x.about(1, 0), 1);
        Due.due("about(2, 0)", x.about(2, 0), 0);
        x.remove(1);
        x.remove(2);
        Due.put(x, 0, false, "l");
        Due.put(x, 0, true, "d");
        Due.due("about(1, 0) used again", x.about(1, 0), 0);
        Due.due("about(2, 0) used again", x.about(2, 0), 1);
        Due.due("about(2, 2) used again", x.about(2, 2), 0);
    }

    private static void leastNumber() {
        Due.sentence("with the least number that is free");
        FoldedNames x = Due.tree();
        x.remove(4);
        x.remove(3);
        x.remove(2);
        Due.due("put", Due.put(x, 0, false, "p"), 2);
        Due.due("put", Due.put(x, 5, true, "q"), 3);
        Due.due("put", Due.put(x, 1, true, "r"), 4);
        Due.due("put", Due.put(x, 0, true, "s"), 6);
        x.remove(6);
        x.remove(2);
        Due.due("put", Due.put(x, 0, true, "t"), 2);
        Due.due("put", Due.put(x, 0, true, "u"), 6);
    }

    private static void lastEntry() {
        Due.sentence("is the last ENTRY of a DIRECTORY");
        FoldedNames x = Due.tree();
        Due.put(x, 1, false, "c");
        Due.dueRow("entry(1)", k -> x.entry(1, k), 2, 5, 6);
        x.remove(5);
        Due.put(x, 1, false, "b");
        Due.dueRow("entry(1)", k -> x.entry(1, k), 2, 6, 5);
        Due.due("about(5, 1)", x.about(5, 1), 1);
    }

    private static void putInNoDirectory() {
        Due.sentence("put: -5, none, or no DIRECTORY where one has to be");
        FoldedNames x = Due.tree();
        for (int number : Due.NO_NUMBERS) {
            Due.due("put in " + number, Due.put(x, number, true, "x"), -5);
        }
        Due.due("put in a LEAF", Due.put(x, 4, true, "x"), -5);
        x.remove(5);
        Due.due("put in what is gone", Due.put(x, 5, true, "x"), -5);
        Due.due("nodes()", x.nodes(), 5);
    }

    private static void putWithoutNodes() {
        Due.sentence("put: -4, no room (200 NODES)");
        FoldedNames x = new FoldedNames();
        for (int number = 1; number <= 199; number++) {
            Due.due("put", Due.put(x, (number - 1) / 40, true, "n" + number), number);
        }
        Due.due("put of the 201st", Due.put(x, 50, true, "more"), -4);
        Due.due("put of the 201st", Due.put(x, 199, false, "more"), -4);
        Due.due("nodes()", x.nodes(), 200);
        Due.due("about(50, 2)", x.about(50, 2), 0);
        Due.due("remove(100)", x.remove(100), 2);
        Due.due("put of the 200th", Due.put(x, 50, false, "more"), 100);
        Due.due("put of the 201st", Due.put(x, 50, true, "still more"), -4);
    }

    private static void putWithoutEntries() {
        Due.sentence("put: -4, no room (40 ENTRIES)");
        FoldedNames x = new FoldedNames();
        for (int number = 1; number <= 40; number++) {
            Due.due("put", Due.put(x, 0, number == 1, "n" + number), number);
        }
        Due.due("put of a 41st", Due.put(x, 0, false, "n41"), -4);
        Due.due("about(0, 2)", x.about(0, 2), 40);
        Due.due("put elsewhere", Due.put(x, 1, false, "n41"), 41);
        Due.due("remove(7)", x.remove(7), 0);
        Due.due("put of a 40th", Due.put(x, 0, false, "n41"), 7);
        Due.due("put of a 41st", Due.put(x, 0, false, "n42"), -4);
        Due.due("entry(0, 39)", x.entry(0, 39), 7);
    }

    private static void findsInItsDirectoryAlone() {
        Due.sentence("The ENTRY of a DIRECTORY whose NAME folds as THE TAPE does");
        FoldedNames x = Due.treeWithoutRoom();
        Due.due("find D", Due.find(x, 0, "D"), 1);
        Due.due("find LEAF", Due.find(x, 0, "LEAF"), 4);
        Due.due("find e in 0", Due.find(x, 0, "e"), -1);
        Due.due("find e in 1", Due.find(x, 1, "e"), 2);
        Due.due("find the first of 40", Due.find(x, 5, "N0"), 6);
        Due.due("find the last of 40", Due.find(x, 5, "N39"), 45);
    }

    private static void findsNone() {
        Due.sentence("find: NONE");
        FoldedNames x = Due.tree();
        Due.due("find of a beginning", Due.find(x, 0, "lea"), -1);
        Due.due("find of more", Due.find(x, 0, "leaff"), -1);
        Due.due("find of more, a MARK", Due.find(x, 0, "leaf\u0301"), -1);
        Due.due("find in an empty one", Due.find(x, 5, "e"), -1);
        x.remove(4);
        Due.due("find of what is gone", Due.find(x, 0, "leaf"), -1);
        Due.move(x, 3, 0, "F");
        Due.due("find of what went", Due.find(x, 2, "f"), -1);
    }

    private static void findInNoDirectory() {
        Due.sentence("find: NO_NODE");
        FoldedNames x = Due.tree();
        for (int number : Due.NO_NUMBERS) {
            Due.due("find in " + number, Due.find(x, number, "x"), -5);
        }
        Due.due("find in a LEAF", Due.find(x, 4, "x"), -5);
        x.remove(5);
        Due.due("find in what is gone", Due.find(x, 5, "x"), -5);
    }

    private static void letterOfName() {
        Due.sentence("Octet k of the NAME of a NODE (which = 0); NONE when there is none");
        FoldedNames x = Due.tree();
        Due.put(x, 0, false, "\u00c9\u0323B");
        Due.dueRow("letter(6, 0)", k -> x.letter(6, 0, k), 195, 137, 204, 163, 66);
        dueNoLetter(x, 6, 0, 59, 60, 61, Integer.MIN_VALUE, Integer.MAX_VALUE);
        Due.move(x, 6, 0, "x");
        Due.dueRow("letter(6, 0), shorter", k -> x.letter(6, 0, k), 'x');
    }

    private static void letterOfFoldedName() {
        Due.sentence("POINT k of that folded (1); NONE when there is none");
        FoldedNames x = Due.tree();
        Due.put(x, 0, false, "\u00c9\u0323B");
        Due.dueRow("letter(6, 1)", k -> x.letter(6, 1, k), 101, 803, 769, 98);
        dueNoLetter(x, 6, 1, 59, 60, 61, Integer.MIN_VALUE, Integer.MAX_VALUE);
        Due.move(x, 6, 0, "X");
        Due.dueRow("letter(6, 1), shorter", k -> x.letter(6, 1, k), 'x');
        Due.put(x, 0, false, "\u00c9".repeat(30));
        Due.due("letter(7, 1, 59)", x.letter(7, 1, 59), 769);
        dueNoLetter(x, 7, 1, 60);
    }

    private static void dueNoLetter(FoldedNames x, int node, int which, int... beside) {
        for (int k : beside) {
            Due.due("letter(" + node + ", " + which + ", " + k + ")", x.letter(node, which, k), -1);
        }
    }

    private static void letterOfRoot() {
        Due.sentence("0 is the ROOT, a DIRECTORY without a NAME: letter");
        FoldedNames x = Due.tree();
        Due.dueRow("letter(0, 0)", k -> x.letter(0, 0, k));
        Due.dueRow("letter(0, 1)", k -> x.letter(0, 1, k));
    }

    private static void letterOfNone() {
        Due.sentence("letter: NO_NODE");
        FoldedNames x = Due.tree();
        for (int number : Due.NO_NUMBERS) {
            Due.due("letter(" + number + ", 0, 0)", x.letter(number, 0, 0), -5);
            Due.due("letter(" + number + ", 1, -1)", x.letter(number, 1, -1), -5);
        }
        x.remove(3);
        Due.due("letter(3, 0, 0) of what is gone", x.letter(3, 0, 0), -5);
    }

    private static void letterOfAnotherWhich() {
        Due.sentence("letter: IllegalArgumentException: another which");
        FoldedNames x = Due.tree();
        int[] others = {-1, 2, 3, Integer.MIN_VALUE, Integer.MAX_VALUE};
        for (int which : others) {
            Due.dueThrow("letter(1, " + which + ", 0)", () -> x.letter(1, which, 0));
            Due.dueThrow("letter(0, " + which + ", 0)", () -> x.letter(0, which, 0));
            Due.dueThrow("letter(1, " + which + ", -1)", () -> x.letter(1, which, -1));
            Due.dueThrow("letter(9, " + which + ", 0)", () -> x.letter(9, which, 0));
        }
    }
}
