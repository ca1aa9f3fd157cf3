import java.text.Normalizer;
import java.util.HashMap;
import java.util.Map;

/** FOLDING of "Terms", and promises 4 and 5, fold and folded. */
public final class FoldingTest {
    private static final Map<Integer, Integer> SMALL = smallOnes();

    public static void main(String[] args) {
        takenApart();
        notTakenApart();
        whatTheSecondRowTells();
        greatLatin();
        greatLatinWithMarks();
        evenFrom256();
        evenFrom330();
        oddFrom313();
        oddFrom377();
        is376();
        greek();
        lastSigma();
        cyrillicFrom1024();
        cyrillicFrom1040();
        is181();
        is383();
        allOthersStay();
        marksOf230();
        marksOf220();
        marksOf202();
        lesserClassBefore();
        sideBySide();
        sameClassStays();
        marksTakenApart();
        answersHowMany();
        wrongTexts();
        foldedBeside();
        foldedOtherwiseStays();
        Due.end();
    }

    private static void takenApart() {
        Due.sentence("first each POINT from 192 to 255 is taken apart");
        Due.duePointFolded(191, 191);
        Due.duePointFolded(192, 97, 768);
        Due.duePointFolded(255, 121, 776);
        Due.duePointFolded(256, 257);
        String letters = "aaaaaa_ceeeeiiii_nooooo__uuuuy__aaaaaa_ceeeeiiii_nooooo__uuuuy_y";
        int[] marks = {
            768, 769, 770, 771, 776, 778, 0, 807, 768, 769, 770, 776, 768, 769, 770, 776,
            0, 771, 768, 769, 770, 771, 776, 0, 0, 768, 769, 770, 776, 769, 0, 0,
            768, 769, 770, 771, 776, 778, 0, 807, 768, 769, 770, 776, 768, 769, 770, 776,
            0, 771, 768, 769, 770, 771, 776, 0, 0, 768, 769, 770, 776, 769, 0, 776};
        for (int i = 0; i < marks.length; i++) {
            if (marks[i] != 0) {
                Due.duePointFolded(192 + i, letters.charAt(i), marks[i]);
            }
        }
    }

    private static void notTakenApart() {
        Due.sentence("if the character i of these rows is no _");
        Due.duePointFolded(198, 230);
        Due.duePointFolded(208, 240);
        Due.duePointFolded(215, 215);
        Due.duePointFolded(216, 248);
        Due.duePointFolded(222, 254);
        Due.duePointFolded(223, 223);
        Due.duePointFolded(230, 230);
        Due.duePointFolded(240, 240);
        Due.duePointFolded(247, 247);
        Due.duePointFolded(248, 248);
        Due.duePointFolded(254, 254);
    }

    private static void whatTheSecondRowTells() {
        Due.sentence("0 0, 1 1, 2 2, 3 3, 4 8, 5 10, 6 39");
        Due.dueFolded("\u00c0", 97, 768);
        Due.dueFolded("\u00c1", 97, 769);
        Due.dueFolded("\u00c2", 97, 770);
        Due.dueFolded("\u00c3", 97, 771);
        Due.dueFolded("\u00c4", 97, 776);
        Due.dueFolded("\u00c5", 97, 778);
        Due.dueFolded("\u00c7", 99, 807);
    }

    private static void greatLatin() {
        Due.sentence("65 .. 90 (A to Z) 32 more");
        dueStays(64, 91, 96, 97, 122, 123);
        Due.duePointFolded(65, 97);
        Due.duePointFolded(90, 122);
    }

    private static void greatLatinWithMarks() {
        Due.sentence("192 .. 222, but 215, 32 more");
        // Of those that are not taken apart 198 is the first one and 222 the last one.
        Due.duePointFolded(198, 230);
        Due.duePointFolded(222, 254);
        dueStays(190, 191, 215, 223);
        Due.dueFolded("\u00c0", 97, 768);
    }

    private static void evenFrom256() {
        Due.sentence("from 256 to 303 the even ones 1 more");
        Due.duePointFolded(256, 257);
        Due.duePointFolded(302, 303);
        dueStays(257, 301, 303, 304, 305, 306, 308, 310, 311, 312);
    }

    private static void evenFrom330() {
        Due.sentence("330 to 375 the even ones 1 more");
        Due.duePointFolded(330, 331);
        Due.duePointFolded(374, 375);
        dueStays(328, 329, 331, 373, 375);
    }

    private static void oddFrom313() {
        Due.sentence("from 313 to 328 the odd ones 1 more");
        Due.duePointFolded(313, 314);
        Due.duePointFolded(327, 328);
        dueStays(309, 311, 312, 314, 326, 328, 329);
    }

    private static void oddFrom377() {
        Due.sentence("377 to 382 the odd ones 1 more");
        Due.duePointFolded(377, 378);
        Due.duePointFolded(381, 382);
        dueStays(375, 378, 380, 382);
    }

    private static void is376() {
        Due.sentence("376 is 255 (which is not taken apart any more)");
        Due.duePointFolded(376, 255);
        Due.dueFolded("\u0178\u00ff\u0178\u0323", 255, 121, 776, 255, 803);
        FoldedNames x = new FoldedNames();
        Due.put(x, 0, false, "\u0178");
        Due.due("find 255", Due.find(x, 0, "\u00ff"), -1);
        Due.due("put 255", Due.put(x, 0, false, "\u00ff"), 2);
    }

    private static void greek() {
        Due.sentence("913 .. 939, but 930, 32 more");
        Due.duePointFolded(913, 945);
        Due.duePointFolded(929, 961);
        Due.duePointFolded(931, 963);
        Due.duePointFolded(939, 971);
        dueStays(902, 912, 930, 940, 945, 971);
    }

    private static void lastSigma() {
        Due.sentence("962 is 963");
        Due.duePointFolded(962, 963);
        dueStays(961, 963, 964);
    }

    private static void cyrillicFrom1024() {
        Due.sentence("1024 .. 1039 80 more");
        Due.duePointFolded(1024, 1104);
        Due.duePointFolded(1039, 1119);
        dueStays(1023, 1104, 1119);
    }

    private static void cyrillicFrom1040() {
        Due.sentence("1040 .. 1071 32 more");
        Due.duePointFolded(1040, 1072);
        Due.duePointFolded(1071, 1103);
        dueStays(1072, 1103, 1120);
    }

    private static void is181() {
        Due.sentence("181 is 956");
        Due.duePointFolded(181, 956);
        Due.duePointFolded(924, 956);
        dueStays(180, 182, 956);
    }

    private static void is383() {
        Due.sentence("383 is 115");
        Due.duePointFolded(383, 115);
        dueStays(382, 384, 115);
    }

    private static void allOthersStay() {
        Due.sentence("all others stay");
        dueStays(0, 46, 47, 127, 128, 8486, 8490, 8491, 65313, 66560, 65535, 65536, 1114111);
        for (int point = 0; point <= 1114111; point++) {
            if (point < 55296 || point > 57343) {
                Due.duePointFolded(point, foldedAlone(point));
            }
        }
    }

    private static void marksOf230() {
        Due.sentence("MARKS are 768 .. 783 (of the CLASS 230)");
        dueGoesBehind803(768, 769, 776, 782, 783);
        dueStaysBefore803(767, 784, 785, 802);
    }

    private static void marksOf220() {
        Due.sentence("803 (220)");
        Due.dueFolded("\u0301\u0323", 803, 769);
        Due.dueFolded("\u0323\u0301", 803, 769);
        Due.dueFolded("\u0323\u0327", 807, 803);
        // 802 and 804 are no MARKS.
        Due.dueFolded("\u0301\u0322", 769, 802);
        Due.dueFolded("\u0301\u0324", 769, 804);
    }

    private static void marksOf202() {
        Due.sentence("807, 808 (202)");
        Due.dueFolded("\u0323\u0327", 807, 803);
        Due.dueFolded("\u0323\u0328", 808, 803);
        Due.dueFolded("\u0301\u0327", 807, 769);
        Due.dueFolded("\u0301\u0328", 808, 769);
        // 806 and 809 are no MARKS.
        Due.dueFolded("\u0323\u0326", 803, 806);
        Due.dueFolded("\u0323\u0329", 803, 809);
    }

    private static void lesserClassBefore() {
        Due.sentence("those of a lesser CLASS come before");
        Due.dueFolded("a\u0301\u0323\u0327", 97, 807, 803, 769);
        Due.dueFolded("a\u0301\u0327\u0323", 97, 807, 803, 769);
        Due.dueFolded("a\u0323\u0301\u0327", 97, 807, 803, 769);
        Due.dueFolded("a\u0323\u0327\u0301", 97, 807, 803, 769);
        Due.dueFolded("a\u0327\u0301\u0323", 97, 807, 803, 769);
        Due.dueFolded("a\u0327\u0323\u0301", 97, 807, 803, 769);
        Due.dueFolded("\u0301\u0327", 807, 769);
        FoldedNames x = new FoldedNames();
        Due.due("fold()", Due.feed(x, "\u0301".repeat(50) + "\u0327".repeat(50)).fold(), 100);
        Due.due("folded(0)", x.folded(0), 807);
        Due.due("folded(49)", x.folded(49), 807);
        Due.due("folded(50)", x.folded(50), 769);
        Due.due("folded(99)", x.folded(99), 769);
    }

    private static void sideBySide() {
        Due.sentence("in each row of MARKS side by side");
        Due.dueFolded("\u0301b\u0327", 769, 98, 807);
        Due.dueFolded("a\u0301\u0323b\u0300\u0328", 97, 803, 769, 98, 808, 768);
        Due.dueFolded("\u0301\u0310\u0327", 769, 784, 807);
        Due.dueFolded("\u0301\u0000\u0327", 769, 0, 807);
        Due.dueFolded("\u0301\ud83d\ude00\u0327", 769, 128512, 807);
    }

    private static void sameClassStays() {
        Due.sentence("those of the same one stay in their order");
        Due.dueFolded("a\u0301\u0300", 97, 769, 768);
        Due.dueFolded("a\u0300\u0301", 97, 768, 769);
        Due.dueFolded("a\u0328\u0327", 97, 808, 807);
        Due.dueFolded("a\u0327\u0328", 97, 807, 808);
        Due.dueFolded("a\u0301\u0323\u0328\u0300\u0327\u0323", 97, 808, 807, 803, 803, 769, 768);
        Due.dueFolded("a\u030f\u0327\u0300\u0328\u0301", 97, 807, 808, 783, 768, 769);
    }

    private static void marksTakenApart() {
        Due.sentence("first each POINT is taken apart: its MARK stands in the row of MARKS");
        Due.dueFolded("\u00e9\u0323", 101, 803, 769);
        Due.dueFolded("\u00e9\u0327\u0323", 101, 807, 803, 769);
        Due.dueFolded("\u00e9\u0300", 101, 769, 768);
        Due.dueFolded("\u00c7\u0323\u00e0\u0327", 99, 807, 803, 97, 807, 768);
        Due.dueFolded("\u0301\u00c7", 769, 99, 807);
        Due.dueFolded("\u00c9\u00e9E\u0301", 101, 769, 101, 769, 101, 769);
    }

    private static void answersHowMany() {
        Due.sentence("Answers how many POINTS");
        Due.dueFolded("");
        Due.dueFolded("Zoo/\u0000.", 122, 111, 111, 47, 0, 46);
        Due.dueFolded("\u00e9\u20ac\ud83d\ude00", 101, 769, 8364, 128512);
        FoldedNames x = new FoldedNames();
        Due.due("fold() of 200 letters", Due.feed(x, "A".repeat(200)).fold(), 200);
        Due.due("folded(199)", x.folded(199), 97);
        Due.due("folded(200)", x.folded(200), -1);
        Due.due("fold() of 100 that are two", Due.feed(x, "\u00c0".repeat(100)).fold(), 200);
        Due.due("folded(198)", x.folded(198), 97);
        Due.due("folded(199)", x.folded(199), 768);
        Due.due("folded(200)", x.folded(200), -1);
        Due.due("fold() of 50 of four octets", Due.feed(x, "\ud83d\ude00".repeat(50)).fold(), 50);
        Due.due("folded(49)", x.folded(49), 128512);
        Due.due("folded(50)", x.folded(50), -1);
    }

    private static void wrongTexts() {
        Due.sentence("WRONG when it is not right (FOLDED stays)");
        FoldedNames x = new FoldedNames();
        Due.due("fold() of 255", Due.feed(x, Due.octets(255)).fold(), FoldedNames.WRONG);
        Due.dueRow("folded", x::folded);
        Due.due("fold()", Due.feed(x, "AB").fold(), 2);
        Due.due("fold() of 67 255", Due.feed(x, Due.octets(67, 255)).fold(), FoldedNames.WRONG);
        Due.dueRow("folded", x::folded, 97, 98);
        Due.due("fold() of a cut one", Due.feed(x, Due.octets(67, 195)).fold(), FoldedNames.WRONG);
        Due.dueRow("folded", x::folded, 97, 98);
        Due.due("fold() of nothing", x.fold(), 0);
        Due.dueRow("folded", x::folded);
    }

    private static void foldedBeside() {
        Due.sentence("POINT k of FOLDED; NONE when there is none");
        FoldedNames x = new FoldedNames();
        Due.due("folded(0) of a new object", x.folded(0), FoldedNames.NONE);
        Due.feed(x, "ABC").fold();
        Due.dueRow("folded", x::folded, 97, 98, 99);
        int[] beside = {3, 4, 199, 200, 201, -1, -2, Integer.MIN_VALUE, Integer.MAX_VALUE};
        for (int k : beside) {
            Due.due("folded(" + k + ")", x.folded(k), FoldedNames.NONE);
        }
        Due.feed(x, "D").fold();
        Due.dueRow("folded, shorter than before", x::folded, 100);
    }

    private static void foldedOtherwiseStays() {
        Due.sentence("FOLDED is that: of the last fold(), whatever else was read");
        FoldedNames x = new FoldedNames();
        Due.feed(x, "AB").fold();
        Due.put(x, 0, true, "CCC");
        Due.find(x, 0, "DDD");
        Due.walk(x, 0, "EEE/FFF");
        Due.move(x, 1, 0, "GGG");
        Due.feed(x, "HHH").check();
        Due.feed(x, "III");
        x.remove(1);
        Due.dueRow("folded", x::folded, 97, 98);
    }

    private static void dueGoesBehind803(int... points) {
        for (int point : points) {
            Due.dueFolded(Due.utf8("a" + Character.toString(point) + "\u0323"), 97, 803, point);
        }
    }

    private static void dueStaysBefore803(int... points) {
        for (int point : points) {
            Due.dueFolded(Due.utf8("a" + Character.toString(point) + "\u0323"), 97, point, 803);
        }
    }

    private static void dueStays(int... points) {
        for (int point : points) {
            Due.duePointFolded(point, point);
        }
    }

    private static Map<Integer, Integer> smallOnes() {
        Map<Integer, Integer> small = new HashMap<>();
        more(small, 65, 90, 1, 32);
        more(small, 192, 222, 1, 32);
        small.remove(215);
        more(small, 256, 302, 2, 1);
        more(small, 330, 374, 2, 1);
        more(small, 313, 327, 2, 1);
        more(small, 377, 381, 2, 1);
        small.put(376, 255);
        more(small, 913, 939, 1, 32);
        small.remove(930);
        small.put(962, 963);
        more(small, 1024, 1039, 1, 80);
        more(small, 1040, 1071, 1, 32);
        small.put(181, 956);
        small.put(383, 115);
        return small;
    }

    private static void more(Map<Integer, Integer> small, int from, int to, int step, int by) {
        for (int point = from; point <= to; point += step) {
            small.put(point, point + by);
        }
    }

    /** The document's table is that of the canonical forms, so the library can tell it. */
    private static int[] foldedAlone(int point) {
        String text = Character.toString(point);
        String apart = point >= 192 && point <= 255
                ? Normalizer.normalize(text, Normalizer.Form.NFD) : text;
        int[] points = apart.codePoints().toArray();
        for (int i = 0; i < points.length; i++) {
            points[i] = SMALL.getOrDefault(points[i], points[i]);
        }
        return points;
    }
}
