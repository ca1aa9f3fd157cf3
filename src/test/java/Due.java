import java.nio.charset.StandardCharsets;
import java.util.function.IntUnaryOperator;

/**
 * What the tests share: the sentence of the document that is looked at, the count of answers that
 * are not as due, and ways to feed THE TAPE. No test makes more than 512 calls on one object, as
 * nothing is promised behind them.
 */
final class Due {
    /** Numbers that no NODE of tree() has. */
    static final int[] NO_NUMBERS = {-1, 6, 199, 200, Integer.MIN_VALUE, Integer.MAX_VALUE};

    private static String sentence = "";
    private static int asked = 0;
    private static int askedBefore = 0;
    private static int wrong = 0;

    private Due() {
    }

    /** The answers from here on are those that these words of the document ask for. */
    static void sentence(String words) {
        endSentence();
        sentence = words;
    }

    private static void endSentence() {
        if (!sentence.isEmpty() && asked == askedBefore) {
            fail("nothing was asked");
        }
        askedBefore = asked;
    }

    private static void fail(String what) {
        wrong++;
        System.out.println((sentence.isEmpty() ? "" : "[" + sentence + "] ") + what);
    }

    static void due(String call, long got, long want) {
        asked++;
        if (got != want) {
            fail(call + " answered " + got + ", due is " + want);
        }
    }

    static void due(String call, String got, String want) {
        asked++;
        if (!got.equals(want)) {
            fail(call + " left\n  " + got + ", due is\n  " + want);
        }
    }

    static void due(String call, boolean threw, boolean want) {
        asked++;
        if (threw != want) {
            fail(call + (want ? " did not throw" : " threw"));
        }
    }

    static void dueThrow(String call, Runnable run) {
        String got = "nothing";
        try {
            run.run();
        } catch (RuntimeException e) {
            got = e.getClass().getSimpleName();
        }
        asked++;
        if (!got.equals("IllegalArgumentException")) {
            fail(call + " threw " + got + ", due is IllegalArgumentException");
        }
    }

    /** A row that is read by its index, from 0 on, has these items and NONE beside them. */
    static void dueRow(String call, IntUnaryOperator at, int... want) {
        for (int k = 0; k < want.length; k++) {
            due(call + " " + k, at.applyAsInt(k), want[k]);
        }
        due(call + " behind the last", at.applyAsInt(want.length), FoldedNames.NONE);
        due(call + " -1", at.applyAsInt(-1), FoldedNames.NONE);
    }

    static void end() {
        sentence("");
        System.out.println(asked + " answers, " + wrong + " not as due");
        if (wrong != 0 || asked == 0) {
            System.exit(1);
        }
    }

    static byte[] utf8(String text) {
        return text.getBytes(StandardCharsets.UTF_8);
    }

    static byte[] utf8(int point) {
        return utf8(Character.toString(point));
    }

    static byte[] octets(int... values) {
        byte[] row = new byte[values.length];
        for (int i = 0; i < values.length; i++) {
            row[i] = (byte) values[i];
        }
        return row;
    }

    static String told(byte[] row) {
        StringBuilder told = new StringBuilder();
        for (byte octet : row) {
            told.append(' ').append(octet & 255);
        }
        return told.toString();
    }

    /** THE TAPE gets these octets behind what it has, with as few calls as can be. */
    static FoldedNames feed(FoldedNames x, byte[] row) {
        for (int from = 0; from < row.length; from += 8) {
            int n = Math.min(8, row.length - from);
            long told = 0;
            for (int i = 0; i < n; i++) {
                told |= (row[from + i] & 255L) << (8 * i);
            }
            x.feed(n, told);
        }
        return x;
    }

    static FoldedNames feed(FoldedNames x, String text) {
        return feed(x, utf8(text));
    }

    static int put(FoldedNames x, int directory, boolean isDirectory, String name) {
        return feed(x, name).put(directory, isDirectory);
    }

    static int find(FoldedNames x, int directory, String name) {
        return feed(x, name).find(directory);
    }

    static int walk(FoldedNames x, int node, String way) {
        return feed(x, way).walk(node);
    }

    static int move(FoldedNames x, int node, int directory, String name) {
        return feed(x, name).move(node, directory);
    }

    /** The NODES 1 d, 2 d/e, 3 d/e/f (a LEAF), 4 leaf (a LEAF), 5 d/g. */
    static FoldedNames tree() {
        FoldedNames x = new FoldedNames();
        put(x, 0, true, "d");
        put(x, 1, true, "e");
        put(x, 2, false, "f");
        put(x, 0, false, "leaf");
        put(x, 1, true, "g");
        return x;
    }

    /** tree() with 40 ENTRIES more, 6 .. 45, in 5: n0 .. n39, LEAVES. */
    static FoldedNames treeWithoutRoom() {
        FoldedNames x = tree();
        for (int i = 0; i < 40; i++) {
            put(x, 5, false, "n" + i);
        }
        return x;
    }

    /** The NODES 1 .. last, DIRECTORIES that are called n, each one in the one before. */
    static FoldedNames chain(int last) {
        FoldedNames x = new FoldedNames();
        for (int number = 1; number <= last; number++) {
            put(x, number - 1, true, "n");
        }
        return x;
    }

    /** All 200 NODES, DIRECTORIES with 40 ENTRIES each, as long as there are some: n1 .. n199. */
    static FoldedNames fullTree() {
        FoldedNames x = new FoldedNames();
        for (int number = 1; number <= 199; number++) {
            put(x, (number - 1) / 40, true, "n" + number);
        }
        return x;
    }

    static void dueCheck(int want, int... row) {
        dueCheck(want, octets(row));
    }

    static void dueCheck(int want, byte[] row) {
        due("check() of" + told(row), feed(new FoldedNames(), row).check(), want);
    }

    static void dueFolded(String text, int... points) {
        dueFolded(utf8(text), points);
    }

    static void dueFolded(byte[] text, int... points) {
        FoldedNames x = new FoldedNames();
        due("fold() of" + told(text), feed(x, text).fold(), points.length);
        dueRow("folded of" + told(text) + ":", x::folded, points);
    }

    static void duePointFolded(int point, int... points) {
        dueFolded(utf8(point), points);
    }
}
