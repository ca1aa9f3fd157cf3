import java.text.Normalizer;
import java.util.HashMap;
import java.util.Map;

/** Promises 4 and 5, fold and folded: every POINT alone, and rows of MARKS. */
public final class FoldingTest {
    private static final Map<Integer, Integer> SMALL = smallOnes();

    public static void main(String[] args) {
        everyPointAlone();
        texts();
        rowsOfMarks();
        whatStays();
        longest();
        Due.end();
    }

    private static Map<Integer, Integer> smallOnes() {
        Map<Integer, Integer> small = new HashMap<>();
        more(small, 65, 90, 1, 32);
        more(small, 192, 222, 1, 32);
        small.remove(215);
        more(small, 256, 302, 2, 1);
        more(small, 330, 374, 2, 1);
        more(small, 313, 327, 2, 1);
        more(small, 377, 381, 2, 1);
        small.put(376, 255);
        more(small, 913, 939, 1, 32);
        small.remove(930);
        small.put(962, 963);
        more(small, 1024, 1039, 1, 80);
        more(small, 1040, 1071, 1, 32);
        small.put(181, 956);
        small.put(383, 115);
        return small;
    }

    private static void more(Map<Integer, Integer> small, int from, int to, int step, int by) {
        for (int point = from; point <= to; point += step) {
            small.put(point, point + by);
        }
    }

    /** The document's table is that of the canonical forms, so the library can tell it. */
    private static int[] foldedAlone(int point) {
        String text = new String(Character.toChars(point));
        String apart = point >= 192 && point <= 255
                ? Normalizer.normalize(text, Normalizer.Form.NFD) : text;
        int[] points = apart.codePoints().toArray();
        for (int i = 0; i < points.length; i++) {
            points[i] = SMALL.getOrDefault(points[i], points[i]);
        }
        return points;
    }

    private static void everyPointAlone() {
        for (int point = 0; point <= 1114111; point++) {
            if (point < 55296 || point > 57343) {
                byte[] row = Due.utf8(new String(Character.toChars(point)));
                Due.dueFolded(String.valueOf(point), row, foldedAlone(point));
            }
        }
    }

    private static void texts() {
        Due.dueFolded("");
        Due.dueFolded("Zoo/\u0000.", 122, 111, 111, 47, 0, 46);
        Due.dueFolded("\u00c9\u00e9E\u0301", 101, 769, 101, 769, 101, 769);
        Due.dueFolded("\u0178\u00ff", 255, 121, 776);
        Due.dueFolded("\u03a3\u03c2\u03c3", 963, 963, 963);
        Due.dueFolded("\u00c6\u00d7\u00d8\u00de\u00df", 230, 215, 248, 254, 223);
    }

    private static void rowsOfMarks() {
        Due.dueFolded("a\u0301\u0300", 97, 769, 768);
        Due.dueFolded("a\u0301\u0323", 97, 803, 769);
        Due.dueFolded("a\u0323\u0327", 97, 807, 803);
        Due.dueFolded("a\u0301\u0323\u0328\u0300\u0327\u0323", 97, 808, 807, 803, 803, 769, 768);
        Due.dueFolded("\u00e9\u0323", 101, 803, 769);
        Due.dueFolded("\u00c7\u0323\u00e0\u0327", 99, 807, 803, 97, 807, 768);
        Due.dueFolded("\u0301\u0327", 807, 769);
        Due.dueFolded("\u0301b\u0327", 769, 98, 807);
        Due.dueFolded("\u030f\u0327", 807, 783);
        Due.dueFolded("\u0300\u0323", 803, 768);
        // 784 and 806 are no MARKS: nothing goes past them, and they stay.
        Due.dueFolded("\u0301\u0310\u0327", 769, 784, 807);
        Due.dueFolded("\u0301\u0326\u0327", 769, 806, 807);
        Due.dueFolded("\u0301\u0324\u0323", 769, 804, 803);
        Due.dueFolded("\u0301\u0329", 769, 809);
    }

    private static void whatStays() {
        FoldedNames x = new FoldedNames();
        Due.due("folded(0) of a new object", x.folded(0), FoldedNames.NONE);
        Due.due("fold()", Due.feed(x, "AB").fold(), 2);
        Due.due("fold() of a wrong text", Due.feed(x, Due.octets(67, 255)).fold(), FoldedNames.WRONG);
        Due.due("folded(0) stays", x.folded(0), 97);
        Due.due("folded(1) stays", x.folded(1), 98);
        Due.due("folded(2)", x.folded(2), -1);
        Due.due("folded(-1)", x.folded(-1), -1);
        Due.due("folded(least)", x.folded(Integer.MIN_VALUE), -1);
        Due.due("folded(most)", x.folded(Integer.MAX_VALUE), -1);
        Due.put(x, 0, true, "CCC");
        Due.find(x, 0, "DDD");
        Due.walk(x, 0, "EEE/FFF");
        Due.move(x, 1, 0, "GGG");
        Due.feed(x, "HHH").check();
        Due.due("folded(0) after other reads", x.folded(0), 97);
        Due.due("folded(2) after other reads", x.folded(2), -1);
        Due.due("fold() of nothing: a wrong text is used up, too", x.fold(), 0);
        Due.due("folded(0) of nothing", x.folded(0), -1);
    }

    private static void longest() {
        FoldedNames x = new FoldedNames();
        Due.due("fold() of 100 letters", Due.feed(x, "\u00c0".repeat(100)).fold(), 200);
        Due.due("folded(198)", x.folded(198), 97);
        Due.due("folded(199)", x.folded(199), 768);
        Due.due("folded(200)", x.folded(200), -1);
        Due.due("fold() of MARKS", Due.feed(x, "\u0301".repeat(50) + "\u0327".repeat(50)).fold(), 100);
        Due.due("folded(49)", x.folded(49), 807);
        Due.due("folded(50)", x.folded(50), 769);
    }
}
