/** Promise 8, walk. */
public final class WalkTest {
    public static void main(String[] args) {
        fromANode();
        fromTheRoot();
        slashes();
        leadsOnAsByFind();
        dot();
        twoDots();
        twoDotsOfTheRoot();
        behindALeaf();
        wrongBehindALeaf();
        nothingBehindALeaf();
        wrongNames();
        wrongIfAllBeforeLeadOn();
        noNode();
        longest();
        Due.end();
    }

    private static void due(int node, String way, int want) {
        due(node, Due.utf8(way), want);
    }

    private static void due(int node, byte[] way, int want) {
        FoldedNames x = Due.feed(Due.tree(), way);
        Due.due("walk(" + node + ") along" + Due.told(way), x.walk(node), want);
    }

    private static void fromANode() {
        Due.sentence("The NODE that THE TAPE, as a way, leads to from a NODE");
        due(0, "d", 1);
        due(1, "e", 2);
        due(1, "e/f", 3);
        due(0, "e", -1);
        due(2, "f", 3);
        due(0, "", 0);
        due(2, "", 2);
    }

    private static void fromTheRoot() {
        Due.sentence("from the ROOT, if it begins with /");
        due(2, "/d", 1);
        due(1, "/e", -1);
        due(1, "/d/e", 2);
        due(2, "/", 0);
        due(3, "/d/e/f", 3);
        due(4, "/leaf", 4);
        due(4, "/", 0);
        due(2, "f/", 3);
    }

    private static void slashes() {
        Due.sentence("NAMES with one / or more between them, before and behind");
        due(0, "d/e", 2);
        due(0, "d//e", 2);
        due(0, "d/////e", 2);
        due(2, "//d/e", 2);
        due(2, "///", 0);
        due(0, "d/", 1);
        due(0, "d/e///", 2);
        due(2, "//d///e//f//", 3);
    }

    private static void leadsOnAsByFind() {
        Due.sentence("each one leads on as by find()");
        due(0, "D/E/F", 3);
        due(0, "D/x/f", -1);
        due(0, "x", -1);
        due(0, "lea", -1);
        FoldedNames x = new FoldedNames();
        Due.put(x, 0, true, "\u00c9");
        Due.put(x, 1, false, "\u03a3\u0323\u0327");
        Due.due("walk folded", Due.walk(x, 0, "e\u0301/\u03c2\u0327\u0323"), 2);
        Due.due("walk back and forth", Due.walk(x, 0, "\u00e9/../E\u0301/\u03c3\u0323\u0327"), 2);
    }

    private static void dot() {
        Due.sentence(". leads to itself");
        due(2, ".", 2);
        due(0, ".", 0);
        due(2, "././.", 2);
        due(0, "d/./e/.", 2);
        due(2, "/.", 0);
        due(0, "...", -1);
    }

    private static void twoDots() {
        Due.sentence(".. to the DIRECTORY in which it is");
        due(2, "..", 1);
        due(2, "../..", 0);
        due(2, "../g", 5);
        due(0, "d/e/../g/..", 1);
        FoldedNames x = Due.tree();
        x.move(2, 5);
        Due.due("walk .. behind a move", Due.walk(x, 2, ".."), 5);
    }

    private static void twoDotsOfTheRoot() {
        Due.sentence("(of the ROOT to itself)");
        due(0, "..", 0);
        due(2, "/..", 0);
        due(2, "../../../..", 0);
        due(0, "../d", 1);
        due(0, "../../d/e", 2);
    }

    private static void behindALeaf() {
        Due.sentence("behind a LEAF there is none (NONE)");
        due(0, "leaf/a", -1);
        due(4, "a", -1);
        due(4, "leaf", -1);
        due(0, "leaf/.", -1);
        due(0, "leaf/..", -1);
        due(4, ".", -1);
        due(4, "..", -1);
        due(0, "leaf/../d", -1);
        due(0, "d/e/f//f", -1);
    }

    private static void wrongBehindALeaf() {
        Due.sentence("a wrong NAME is WRONG there, too");
        due(0, "leaf/\u0000", -2);
        due(4, "a\u0000", -2);
        due(4, Due.octets(255), -2);
        due(4, "a".repeat(61), -2);
        due(4, "a".repeat(60), -1);
        due(0, "leaf//" + "a".repeat(61), -2);
    }

    private static void nothingBehindALeaf() {
        Due.sentence("but nothing");
        due(4, "", 4);
        due(0, "leaf", 4);
        due(0, "leaf/", 4);
        due(0, "leaf///", 4);
        due(0, "d/e/f/", 3);
    }

    private static void wrongNames() {
        Due.sentence("WRONG at the first NAME that is wrong");
        due(0, Due.octets(255), -2);
        due(0, "\u0000", -2);
        due(0, "d/\u0000", -2);
        due(0, Due.octets(100, 47, 255), -2);
        due(0, Due.octets(195, 47, 169), -2);
        due(0, Due.octets(195), -2);
        due(0, "a".repeat(60), -1);
        due(0, "a".repeat(61), -2);
        due(0, "d/" + "a".repeat(60), -1);
        due(0, "d/" + "a".repeat(61) + "/", -2);
        due(0, "\u0000/d", -2);
        due(0, "/../\u0000/d", -2);
    }

    private static void wrongIfAllBeforeLeadOn() {
        Due.sentence("if all before lead on");
        due(0, "x/\u0000", -1);
        due(0, "\u0000/x", -2);
        due(0, "d/x/\u0000", -1);
        due(0, "d/\u0000/x", -2);
        due(0, "leaf/a/\u0000", -1);
        due(0, "leaf/../\u0000", -1);
        due(0, "d/e/../\u0000", -2);
    }

    private static void noNode() {
        Due.sentence("NO_NODE when the NODE is not there");
        for (int number : Due.NO_NUMBERS) {
            due(number, "", -5);
            due(number, "d", -5);
            due(number, "/d", -5);
            due(number, "\u0000", -5);
        }
        FoldedNames x = Due.tree();
        x.remove(5);
        Due.due("walk from what is gone", Due.walk(x, 5, "/"), -5);
    }

    private static void longest() {
        Due.sentence("THE TAPE has at most 200 octets: as a way");
        due(0, "/d/..".repeat(40), 0);
        due(0, "/".repeat(199) + "d", 1);
        due(0, "d" + "/".repeat(199), 1);
        due(2, "/".repeat(200), 0);
        due(0, "./".repeat(99) + "/d", 1);
        due(0, "d".repeat(200), -2);
        FoldedNames x = Due.chain(100);
        Due.due("walk a hundred down", Due.walk(x, 0, "N/".repeat(100)), 100);
        Due.due("walk sixty-six up", Due.walk(x, 100, "../".repeat(66)), 34);
    }
}
