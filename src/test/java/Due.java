import java.nio.charset.StandardCharsets;

/** What the tests share: the count of wrong answers, and ways to feed THE TAPE. */
final class Due {
    private static int asked = 0;
    private static int wrong = 0;

    private Due() {
    }

    static void due(String call, long got, long want) {
        asked++;
        if (got != want) {
            wrong++;
            System.out.println(call + " answered " + got + ", due is " + want);
        }
    }

    static void dueThrow(String call, Runnable run) {
        String got = "nothing";
        try {
            run.run();
        } catch (RuntimeException e) {
            got = e.getClass().getSimpleName();
        }
        asked++;
        if (!got.equals("IllegalArgumentException")) {
            wrong++;
            System.out.println(call + " threw " + got + ", due is IllegalArgumentException");
        }
    }

    static void end() {
        System.out.println(asked + " answers, " + wrong + " not as due");
        if (wrong != 0 || asked == 0) {
            System.exit(1);
        }
    }

    static byte[] utf8(String text) {
        return text.getBytes(StandardCharsets.UTF_8);
    }

    static byte[] octets(int... values) {
        byte[] row = new byte[values.length];
        for (int i = 0; i < values.length; i++) {
            row[i] = (byte) values[i];
        }
        return row;
    }

    /** THE TAPE gets these octets behind what it has, with as few calls as can be. */
    static FoldedNames feed(FoldedNames x, byte[] row) {
        for (int from = 0; from < row.length; from += 8) {
            int n = Math.min(8, row.length - from);
            long told = 0;
            for (int i = 0; i < n; i++) {
                told |= (row[from + i] & 255L) << (8 * i);
            }
            x.feed(n, told);
        }
        return x;
    }

    static FoldedNames feed(FoldedNames x, String text) {
        return feed(x, utf8(text));
    }

    static int put(FoldedNames x, int directory, boolean isDirectory, String name) {
        return feed(x, name).put(directory, isDirectory);
    }

    static int find(FoldedNames x, int directory, String name) {
        return feed(x, name).find(directory);
    }

    static int walk(FoldedNames x, int node, String way) {
        return feed(x, way).walk(node);
    }

    static int move(FoldedNames x, int node, int directory, String name) {
        return feed(x, name).move(node, directory);
    }

    static void dueFolded(String text, int... points) {
        dueFolded(text, utf8(text), points);
    }

    static void dueFolded(String told, byte[] text, int... points) {
        FoldedNames x = new FoldedNames();
        due("fold() of " + told, feed(x, text).fold(), points.length);
        for (int k = 0; k < points.length; k++) {
            due("folded(" + k + ") of " + told, x.folded(k), points[k]);
        }
        due("folded behind the last of " + told, x.folded(points.length), -1);
    }
}
