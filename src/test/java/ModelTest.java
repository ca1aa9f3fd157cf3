import java.nio.ByteBuffer;
import java.nio.charset.CharacterCodingException;
import java.nio.charset.StandardCharsets;
import java.text.Normalizer;
import java.util.ArrayList;
import java.util.Arrays;
import java.util.List;
import java.util.Random;
import java.util.TreeMap;

/**
 * All promises together: long runs of calls drawn from fixed seeds, each answer against that of a
 * model that is written with the Java library and holds its state otherwise.
 */
public final class ModelTest {
    private static final int RUNS = 3000;
    // With the most calls that come behind the last count these are below 512.
    private static final int CALLS = 480;
    private static final int MOST_TEXT = 240;
    private static final int THROWN = -98;
    private static final int PUT = 19;
    private static final List<Integer> READS_TAPE = List.of(0, 1, 4, 5, 6, 7, 8, 9, PUT);
    private static final String[] PIECES = {
        "a", "A", "b", "e", "E", "\u00e9", "\u00c9", "e\u0301", "E\u0301", "c\u0327\u0301",
        "\u00c7\u0301", "c\u0301\u0327", "\u0178", "\u00ff", "y\u0308", "\u03c3", "\u03c2",
        "\u03a3", "\u017f", "s", "\u00b5", "\u03bc", "\u0323", "\u0328", "\u0300", "\u0416",
        "\u0436", "\u0401", "\u0451", "\u0130", "\u0131", "\u20ac", "\ud83d\ude00", "z"};
    private static final String[] ODD = {
        "", ".", "..", "...", "/", "a/b", "\u0000", "a\u0000", "aaaaaaaaaaaaaaaaaaaaaaaaaaaaaa",
        "/..", "//", "./..", "\u00e9\u00e9\u00e9\u00e9\u00e9\u00e9\u00e9\u00e9\u00e9\u00e9"};

    public static void main(String[] args) {
        for (int seed = 0; seed < RUNS; seed++) {
            run(seed);
        }
        Due.end();
    }

    /** Runs differ by how many NODES calls go to, and by how many calls are puts. */
    private static void run(int seed) {
        Random random = new Random(seed);
        FoldedNames x = new FoldedNames();
        Model model = new Model();
        int widest = new int[] {2, 4, 8, 30, 200}[seed % 5];
        int puts = new int[] {0, 20, 400}[seed % 3];
        int calls = 0;
        while (calls < CALLS) {
            int kind = random.nextInt(PUT + 2 + puts);
            int a = number(random, model, widest);
            int b = number(random, model, widest);
            int k = random.nextInt(7) - 1;
            String told = "seed " + seed + " behind " + calls + " calls, kind " + kind
                    + " (" + a + ", " + b + ", " + k + ")";
            if (READS_TAPE.contains(Math.min(kind, PUT)) && random.nextInt(5) > 0) {
                calls += feedBoth(told, random, x, model);
            }
            dueCall(told, x, model, new int[] {kind, a, b, k});
            calls++;
        }
    }

    private static int number(Random random, Model model, int widest) {
        return random.nextInt(50) == 0
                ? random.nextInt(260) - 30 : random.nextInt(Math.min(widest, model.nodes() + 1));
    }

    /** Answers how many calls of feed it took. */
    private static int feedBoth(String told, Random random, FoldedNames x, Model model) {
        byte[] row = random.nextBoolean() ? Due.utf8("n" + random.nextInt(60)) : text(random);
        int fed = 0;
        for (int from = 0; from < row.length; from += 8) {
            int n = Math.min(8, row.length - from);
            long octets = random.nextLong();
            for (int i = 0; i < n; i++) {
                octets = octets & ~(255L << (8 * i)) | (row[from + i] & 255L) << (8 * i);
            }
            int want = model.feed(Arrays.copyOfRange(row, from, from + n));
            int got;
            try {
                got = x.feed(n, octets);
            } catch (IllegalArgumentException e) {
                got = THROWN;
            }
            Due.due("feed " + told, got, want);
            fed++;
        }
        return fed;
    }

    private static byte[] text(Random random) {
        StringBuilder text = new StringBuilder();
        int pieces = random.nextInt(4) + (random.nextInt(20) == 0 ? 25 : 0);
        for (int i = 0; i < pieces; i++) {
            if (random.nextInt(5) == 0) {
                text.append(ODD[random.nextInt(ODD.length)]);
            } else {
                text.append(PIECES[random.nextInt(PIECES.length)]);
            }
            if (random.nextInt(3) == 0) {
                text.append('/');
            }
        }
        byte[] whole = Due.utf8(text.toString());
        byte[] row = Arrays.copyOf(whole, Math.min(whole.length, MOST_TEXT));
        if (row.length > 0 && random.nextInt(12) == 0) {
            row[random.nextInt(row.length)] = (byte) random.nextInt(256);
        }
        return row;
    }

    private static void dueCall(String told, FoldedNames x, Model model, int[] call) {
        int a = call[1];
        int b = call[2];
        int k = call[3];
        switch (call[0]) {
            case 0 -> Due.due("check " + told, x.check(), model.check());
            case 1 -> Due.due("fold " + told, x.fold(), model.fold());
            case 2, 3 -> Due.due("folded " + told, x.folded(k), model.folded(k));
            case 4, 5 -> Due.due("find " + told, x.find(a), model.find(a));
            case 6, 7 -> Due.due("walk " + told, x.walk(a), model.walk(a));
            case 8, 9 -> Due.due("move " + told, x.move(a, b), model.move(a, b));
            case 10 -> Due.due("remove " + told, x.remove(a), model.remove(a));
            case 11, 12 -> dueAbout(told, x, model, a, k);
            case 13 -> Due.due("entry " + told, x.entry(a, k), model.entry(a, k));
            case 14, 15 -> Due.due("sorted " + told, x.sorted(a, k), model.sorted(a, k));
            case 16, 17 -> dueLetter(told, x, model, a, Math.floorMod(b, 3), k);
            case 18 -> Due.due("nodes " + told, x.nodes(), model.nodes());
            default -> Due.due("put " + told, x.put(a, k > 1), model.put(a, k > 1));
        }
    }

    private static void dueAbout(String told, FoldedNames x, Model model, int node, int what) {
        if (what < 0 || what > 5) {
            Due.dueThrow("about " + told, () -> x.about(node, what));
        } else {
            Due.due("about " + told, x.about(node, what), model.about(node, what));
        }
    }

    private static void dueLetter(
            String told, FoldedNames x, Model model, int node, int which, int k) {
        if (which > 1) {
            Due.dueThrow("letter " + told, () -> x.letter(node, which, k));
        } else {
            Due.due("letter " + told, x.letter(node, which, k), model.letter(node, which, k));
        }
    }

    private static final class Inode {
        private final boolean isDirectory;
        private final List<Inode> entries = new ArrayList<>();
        private int number;
        private Inode parent;
        private byte[] name = {};

        Inode(boolean isDirectory) {
            this.isDirectory = isDirectory;
        }

        List<Integer> key() {
            return Model.foldedPoints(name);
        }
    }

    private static final class Model {
        private final TreeMap<Integer, Inode> inodes = new TreeMap<>();
        private byte[] tape = {};
        private List<Integer> lastFolded = List.of();

        Model() {
            inodes.put(0, new Inode(true));
        }

        int feed(byte[] more) {
            if (tape.length + more.length > 200) {
                return THROWN;
            }
            byte[] longer = Arrays.copyOf(tape, tape.length + more.length);
            System.arraycopy(more, 0, longer, tape.length, more.length);
            tape = longer;
            return tape.length;
        }

        int check() {
            byte[] row = read();
            // A POINT begins where one to four octets are the whole text of one.
            for (int wrong = 0; wrong < row.length; wrong++) {
                boolean begins = false;
                for (int to = wrong + 1; to <= Math.min(wrong + 4, row.length); to++) {
                    String point = textOf(Arrays.copyOfRange(row, wrong, to));
                    if (point != null && point.codePointCount(0, point.length()) == 1) {
                        begins = true;
                        wrong = to - 1;
                        break;
                    }
                }
                if (!begins) {
                    return wrong;
                }
            }
            return -1;
        }

        int fold() {
            List<Integer> points = foldedPoints(read());
            if (points == null) {
                return -2;
            }
            lastFolded = points;
            return points.size();
        }

        int folded(int k) {
            return pick(lastFolded, k);
        }

        int put(int directory, boolean isDirectory) {
            byte[] name = read();
            Inode into = directoryAt(directory);
            if (into == null) {
                return -5;
            }
            if (!isName(name)) {
                return -2;
            }
            if (alike(into, name) != null) {
                return -3;
            }
            if (inodes.size() == 200 || into.entries.size() == 40) {
                return -4;
            }
            Inode made = new Inode(isDirectory);
            while (inodes.containsKey(made.number)) {
                made.number++;
            }
            made.parent = into;
            made.name = name;
            into.entries.add(made);
            inodes.put(made.number, made);
            return made.number;
        }

        int find(int directory) {
            byte[] name = read();
            Inode in = directoryAt(directory);
            if (in == null) {
                return -5;
            }
            if (!isName(name)) {
                return -2;
            }
            Inode found = alike(in, name);
            return found == null ? -1 : found.number;
        }

        int walk(int node) {
            String way = new String(read(), StandardCharsets.ISO_8859_1);
            Inode here = inodes.get(node);
            if (here == null) {
                return -5;
            }
            here = way.startsWith("/") ? inodes.get(0) : here;
            for (String piece : way.split("/")) {
                if (piece.isEmpty()) {
                    continue;
                }
                byte[] name = piece.getBytes(StandardCharsets.ISO_8859_1);
                boolean isDots = piece.equals(".") || piece.equals("..");
                if (!isDots && !isName(name)) {
                    return -2;
                }
                if (!here.isDirectory) {
                    return -1;
                }
                if (piece.equals("..")) {
                    here = here.parent == null ? here : here.parent;
                } else if (!isDots) {
                    here = alike(here, name);
                }
                if (here == null) {
                    return -1;
                }
            }
            return here.number;
        }

        int move(int node, int directory) {
            byte[] name = read();
            Inode moved = inodes.get(node);
            Inode into = directoryAt(directory);
            if (moved == null || node == 0 || into == null) {
                return -5;
            }
            name = name.length == 0 ? moved.name : name;
            if (!isName(name)) {
                return -2;
            }
            Inode other = alike(into, name);
            if (other != null && other != moved) {
                return -3;
            }
            for (Inode up = into; up != null; up = up.parent) {
                if (up == moved) {
                    return -6;
                }
            }
            if (moved.parent != into && into.entries.size() == 40) {
                return -4;
            }
            int before = moved.parent.number;
            moved.parent.entries.remove(moved);
            into.entries.add(moved);
            moved.parent = into;
            moved.name = name;
            return before;
        }

        int remove(int node) {
            Inode gone = inodes.get(node);
            if (gone == null || node == 0) {
                return -5;
            }
            if (!gone.entries.isEmpty()) {
                return -6;
            }
            gone.parent.entries.remove(gone);
            inodes.remove(node);
            return gone.parent.number;
        }

        int about(int node, int what) {
            Inode asks = inodes.get(node);
            if (asks == null) {
                return -5;
            }
            int depth = 0;
            for (Inode up = asks; up.parent != null; up = up.parent) {
                depth++;
            }
            int parent = asks.parent == null ? -1 : asks.parent.number;
            int[] all = {asks.isDirectory ? 1 : 0, parent, asks.entries.size(), asks.name.length,
                asks.key().size(), depth};
            return all[what];
        }

        int entry(int directory, int k) {
            Inode in = directoryAt(directory);
            return in == null ? -5 : numberIn(in.entries, k);
        }

        int sorted(int directory, int k) {
            Inode in = directoryAt(directory);
            if (in == null) {
                return -5;
            }
            List<Inode> all = new ArrayList<>(in.entries);
            all.sort((one, other) -> Arrays.compare(
                    one.key().toArray(new Integer[0]), other.key().toArray(new Integer[0])));
            return numberIn(all, k);
        }

        int letter(int node, int which, int k) {
            Inode from = inodes.get(node);
            if (from == null) {
                return -5;
            }
            List<Integer> octets = new ArrayList<>();
            for (byte octet : from.name) {
                octets.add(octet & 255);
            }
            return pick(which == 0 ? octets : from.key(), k);
        }

        int nodes() {
            return inodes.size();
        }

        private byte[] read() {
            byte[] all = tape;
            tape = new byte[0];
            return all;
        }

        private Inode directoryAt(int number) {
            Inode inode = inodes.get(number);
            return inode != null && inode.isDirectory ? inode : null;
        }

        private static int numberIn(List<Inode> all, int k) {
            return k < 0 || k >= all.size() ? -1 : all.get(k).number;
        }

        private static int pick(List<Integer> all, int k) {
            return k < 0 || k >= all.size() ? -1 : all.get(k);
        }

        private static Inode alike(Inode directory, byte[] name) {
            List<Integer> key = foldedPoints(name);
            for (Inode inode : directory.entries) {
                if (inode.key().equals(key)) {
                    return inode;
                }
            }
            return null;
        }

        private static boolean isName(byte[] name) {
            String text = textOf(name);
            return text != null && name.length >= 1 && name.length <= 60
                    && !text.contains("/") && !text.contains("\u0000")
                    && !text.equals(".") && !text.equals("..");
        }

        private static String textOf(byte[] row) {
            try {
                return StandardCharsets.UTF_8.newDecoder().decode(ByteBuffer.wrap(row)).toString();
            } catch (CharacterCodingException e) {
                return null;
            }
        }

        /** Of these texts' POINTS; FoldingTest has the edges of the small letters. */
        static List<Integer> foldedPoints(byte[] row) {
            String text = textOf(row);
            if (text == null) {
                return null;
            }
            List<Integer> points = new ArrayList<>();
            for (int point : text.codePoints().toArray()) {
                if (point >= 192 && point <= 255) {
                    String apart = Normalizer.normalize(
                            Character.toString(point), Normalizer.Form.NFD);
                    apart.codePoints().forEach(part -> points.add(small(part)));
                } else {
                    points.add(small(point));
                }
            }
            orderMarks(points);
            return points;
        }

        private static int small(int point) {
            if (point == 181) {
                return 956;
            }
            if (point == 383 || point == 962) {
                return Character.toLowerCase(Character.toUpperCase(point));
            }
            boolean isOther = point == 304 || point >= 306 && point <= 311 || point > 383
                    && point < 913 || point > 939 && point < 1024 || point > 1071;
            return isOther ? point : Character.toLowerCase(point);
        }

        private static void orderMarks(List<Integer> points) {
            int from = 0;
            for (int to = 0; to <= points.size(); to++) {
                if (to == points.size() || markClass(points.get(to)) == 0) {
                    points.subList(from, to).sort(
                            (one, other) -> markClass(one) - markClass(other));
                    from = to + 1;
                }
            }
        }

        private static int markClass(int point) {
            if (point == 807 || point == 808) {
                return 202;
            }
            return point == 803 ? 220 : point >= 768 && point <= 783 ? 230 : 0;
        }
    }
}
