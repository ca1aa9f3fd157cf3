import java.util.function.Consumer;
import java.util.function.ToIntFunction;

/** "Of several the first one", "changes nothing" and "throw what their comments name". */
public final class AnswersTest {
    private static final int[] EXTREMES = {
        Integer.MIN_VALUE, Integer.MIN_VALUE + 1, -201, -200, -41, -6, -1, 0, 1, 2, 4, 5, 6, 8, 9,
        39, 40, 41, 59, 60, 61, 199, 200, 201, 255, 256, Integer.MAX_VALUE - 1, Integer.MAX_VALUE};

    public static void main(String[] args) {
        noNodeBeforeWrong();
        noNodeBeforeThere();
        noNodeBeforeFull();
        noNodeBeforeRoom();
        wrongBeforeFull();
        wrongBeforeRoom();
        thereBeforeFull();
        thereBeforeRoom();
        fullBeforeRoom();
        wrongBeforeThereOfItsOldName();
        refusedChangesNothing();
        withoutRoomChangesNothing();
        thrownChangesNothing();
        throwsNothingElse();
        Due.end();
    }

    private static void noNodeBeforeWrong() {
        Due.sentence("in the order -5, -2");
        FoldedNames x = Due.tree();
        Due.due("put in none", Due.put(x, 9, true, "."), -5);
        Due.due("put in a LEAF", Due.put(x, 4, true, ""), -5);
        Due.due("find in none", Due.find(x, 9, "."), -5);
        Due.due("find in a LEAF", Due.find(x, 4, ""), -5);
        Due.due("walk from none", Due.walk(x, 9, "\u0000"), -5);
        Due.due("move the ROOT", Due.move(x, 0, 1, "."), -5);
        Due.due("move none", Due.move(x, 9, 1, "."), -5);
        Due.due("move into a LEAF", Due.move(x, 1, 4, "."), -5);
        Due.due("move into none", Due.move(x, 1, 9, "."), -5);
    }

    private static void noNodeBeforeThere() {
        Due.sentence("in the order -5, -3");
        FoldedNames x = Due.tree();
        Due.due("move the ROOT", Due.move(x, 0, 1, "e"), -5);
        Due.due("move none", Due.move(x, 9, 1, "e"), -5);
    }

    private static void noNodeBeforeFull() {
        Due.sentence("in the order -5, -6");
        FoldedNames x = Due.tree();
        Due.due("move the ROOT into itself", x.move(0, 0), -5);
        Due.due("move the ROOT into its ENTRY", x.move(0, 1), -5);
        Due.due("remove the ROOT, not empty", x.remove(0), -5);
    }

    private static void noNodeBeforeRoom() {
        Due.sentence("in the order -5, -4");
        FoldedNames x = Due.treeWithoutRoom();
        Due.due("move none into what is full", Due.move(x, 99, 5, "new"), -5);
        FoldedNames full = Due.fullTree();
        Due.due("put in none when there are 200", Due.put(full, 200, true, "new"), -5);
    }

    private static void wrongBeforeFull() {
        Due.sentence("in the order -2, -6");
        FoldedNames x = Due.tree();
        Due.due("move into itself", Due.move(x, 1, 1, "."), -2);
        Due.due("move into its ENTRY", Due.move(x, 1, 2, "a/b"), -2);
    }

    private static void wrongBeforeRoom() {
        Due.sentence("in the order -2, -4");
        FoldedNames x = Due.treeWithoutRoom();
        Due.due("put in what is full", Due.put(x, 5, true, ".."), -2);
        Due.due("move into what is full", Due.move(x, 4, 5, ".."), -2);
        FoldedNames full = Due.fullTree();
        Due.due("put when there are 200", Due.put(full, 150, true, ".."), -2);
    }

    private static void thereBeforeFull() {
        Due.sentence("in the order -3, -6");
        FoldedNames x = Due.tree();
        Due.due("move into itself", Due.move(x, 1, 1, "E"), -3);
        Due.due("move into its ENTRY", Due.move(x, 1, 2, "F"), -3);
        Due.put(x, 5, false, "D");
        Due.due("move into its ENTRY as it is called", x.move(1, 5), -3);
    }

    private static void thereBeforeRoom() {
        Due.sentence("in the order -3, -4");
        FoldedNames x = Due.treeWithoutRoom();
        Due.due("put in what is full", Due.put(x, 5, true, "N39"), -3);
        Due.due("move into what is full", Due.move(x, 4, 5, "N0"), -3);
        FoldedNames full = Due.fullTree();
        Due.due("put when there are 200", Due.put(full, 4, true, "N199"), -3);
    }

    private static void fullBeforeRoom() {
        Due.sentence("in the order -6, -4");
        FoldedNames x = Due.treeWithoutRoom();
        Due.due("move into itself, which is full", x.move(5, 5), -6);
        Due.due("move into its ENTRY, which is full", x.move(1, 5), -6);
        Due.due("move with a NAME", Due.move(x, 1, 5, "new"), -6);
    }

    private static void wrongBeforeThereOfItsOldName() {
        Due.sentence("in the order -2, -3");
        FoldedNames x = Due.tree();
        Due.put(x, 1, false, "LEAF");
        // The NAME that it had is there, but THE TAPE tells another one, which is wrong.
        Due.due("move(4, 1)", Due.move(x, 4, 1, "."), -2);
    }

    /** All that calls tell of the NODES 0 .. 7 and of FOLDED, and at last of THE TAPE. */
    private static String state(FoldedNames x) {
        StringBuilder all = new StringBuilder();
        all.append(x.nodes()).append(" nodes, folded");
        for (int k = 0; k < 4; k++) {
            all.append(' ').append(x.folded(k));
        }
        for (int node = 0; node < 8; node++) {
            stateOf(x, node, all.append("; ").append(node).append(':'));
        }
        return all.toString();
    }

    private static void stateOf(FoldedNames x, int node, StringBuilder all) {
        for (int what = 0; what <= 5; what++) {
            all.append(' ').append(x.about(node, what));
        }
        for (int k = 0; k < 6; k++) {
            all.append(' ').append(x.entry(node, k)).append(' ').append(x.sorted(node, k));
            all.append(' ').append(x.letter(node, 0, k)).append(' ').append(x.letter(node, 1, k));
        }
    }

    private static String tape(FoldedNames x) {
        StringBuilder all = new StringBuilder();
        int size = x.feed(1, '!');
        x.fold();
        for (int k = 0; k < size; k++) {
            all.append(' ').append(x.folded(k));
        }
        return all.toString();
    }

    private static FoldedNames folded(FoldedNames x) {
        Due.feed(x, "\u00c9Z").fold();
        return x;
    }

    private static void dueRefused(
            String call, String text, int want, ToIntFunction<FoldedNames> run) {
        FoldedNames x = Due.feed(folded(Due.tree()), text);
        Due.due(call, run.applyAsInt(x), want);
        Due.due(call, state(x), state(folded(Due.tree())));
    }

    private static void dueRefusedReading(
            String call, String text, int want, ToIntFunction<FoldedNames> run) {
        dueRefused(call, text, want, run);
        FoldedNames x = Due.feed(Due.tree(), text);
        run.applyAsInt(x);
        Due.due("THE TAPE behind " + call, tape(x), " 33");
    }

    private static void dueRefusedNotReading(
            String call, int want, ToIntFunction<FoldedNames> run) {
        dueRefused(call, "ab", want, run);
        FoldedNames x = Due.feed(Due.tree(), "ab");
        run.applyAsInt(x);
        Due.due("THE TAPE behind " + call, tape(x), " 97 98 33");
    }

    private static void refusedChangesNothing() {
        Due.sentence("a call that answers below 0 changes nothing (but THE TAPE, where read)");
        dueRefusedReading("check()", "ab", -1, FoldedNames::check);
        dueRefusedReading("put(9)", "new", -5, x -> x.put(9, true));
        dueRefusedReading("put(4)", "new", -5, x -> x.put(4, true));
        dueRefusedReading("put(0) of a/b", "a/b", -2, x -> x.put(0, true));
        dueRefusedReading("put(0) of D", "D", -3, x -> x.put(0, true));
        dueRefusedReading("find(0) of new", "new", -1, x -> x.find(0));
        dueRefusedReading("find(0) of ..", "..", -2, x -> x.find(0));
        dueRefusedReading("find(4)", "new", -5, x -> x.find(4));
        dueRefusedReading("walk(0) along d/x", "d/x", -1, x -> x.walk(0));
        dueRefusedReading("walk(0) along d/0", "d/\u0000", -2, x -> x.walk(0));
        dueRefusedReading("walk(9)", "/d", -5, x -> x.walk(9));
        dueRefusedReading("move(0, 1)", "new", -5, x -> x.move(0, 1));
        dueRefusedReading("move(3, 4)", "new", -5, x -> x.move(3, 4));
        dueRefusedReading("move(3, 0) to a/b", "a/b", -2, x -> x.move(3, 0));
        dueRefusedReading("move(3, 0) to LEAF", "LEAF", -3, x -> x.move(3, 0));
        dueRefusedReading("move(1, 0) to LEAF", "LEAF", -3, x -> x.move(1, 0));
        dueRefusedReading("move(1, 1)", "new", -6, x -> x.move(1, 1));
        dueRefusedReading("move(1, 5)", "new", -6, x -> x.move(1, 5));
        dueRefusedNotReading("folded(9)", -1, x -> x.folded(9));
        dueRefusedNotReading("remove(0)", -5, x -> x.remove(0));
        dueRefusedNotReading("remove(9)", -5, x -> x.remove(9));
        dueRefusedNotReading("remove(1)", -6, x -> x.remove(1));
        dueRefusedNotReading("about(9, 1)", -5, x -> x.about(9, 1));
        dueRefusedNotReading("entry(1, 2)", -1, x -> x.entry(1, 2));
        dueRefusedNotReading("entry(4, 0)", -5, x -> x.entry(4, 0));
        dueRefusedNotReading("sorted(1, 2)", -1, x -> x.sorted(1, 2));
        dueRefusedNotReading("sorted(4, 0)", -5, x -> x.sorted(4, 0));
        dueRefusedNotReading("letter(1, 0, 1)", -1, x -> x.letter(1, 0, 1));
        dueRefusedNotReading("letter(9, 0, 0)", -5, x -> x.letter(9, 0, 0));
        FoldedNames wrong = Due.feed(folded(Due.tree()), Due.octets(97, 255));
        Due.due("fold()", wrong.fold(), -2);
        Due.due("fold()", state(wrong), state(folded(Due.tree())));
    }

    private static void withoutRoomChangesNothing() {
        Due.sentence("a call that answers below 0 changes nothing: without room");
        FoldedNames x = folded(Due.treeWithoutRoom());
        Due.due("put(5)", Due.put(x, 5, true, "new"), -4);
        Due.due("move(4, 5)", Due.move(x, 4, 5, "new"), -4);
        Due.due("find new", Due.find(x, 5, "new"), -1);
        Due.due("about(46, 0)", x.about(46, 0), -5);
        Due.due("put(5) and move(4, 5)", state(x), state(folded(Due.treeWithoutRoom())));
        FoldedNames full = Due.fullTree();
        Due.due("put(150)", Due.put(full, 150, true, "new"), -4);
        Due.due("about(150, 2)", full.about(150, 2), 0);
        Due.due("entry(150, 0)", full.entry(150, 0), -1);
        Due.due("nodes()", full.nodes(), 200);
    }

    private static void thrownChangesNothing() {
        Due.sentence("a call that throws changes nothing");
        dueThrown("feed(0)", x -> x.feed(0, 97));
        dueThrown("feed(9)", x -> x.feed(9, 97));
        dueThrown("about(1, 6)", x -> x.about(1, 6));
        dueThrown("about(1, -1)", x -> x.about(1, -1));
        dueThrown("letter(1, 2, 0)", x -> x.letter(1, 2, 0));
        dueThrown("letter(1, -1, 0)", x -> x.letter(1, -1, 0));
    }

    private static void dueThrown(String call, Consumer<FoldedNames> run) {
        FoldedNames x = Due.feed(folded(Due.tree()), "ab");
        Due.dueThrow(call, () -> run.accept(x));
        Due.due(call, state(x), state(folded(Due.tree())));
        Due.due("THE TAPE behind " + call, tape(x), " 97 98 33");
    }

    /** Every call with extreme numbers, whatever it answers. */
    private static void throwsNothingElse() {
        Due.sentence("Methods throw what their comments name");
        for (int a : EXTREMES) {
            for (int b : EXTREMES) {
                dueQuiet(new FoldedNames(), a, b, Due.octets());
                dueQuiet(Due.tree(), a, b, Due.utf8("new"));
                dueQuiet(Due.tree(), a, b, Due.octets(97, 240, 159));
            }
            dueQuiet(Due.treeWithoutRoom(), a, 5, Due.utf8("new"));
            dueQuiet(Due.treeWithoutRoom(), 4, a, Due.utf8("a".repeat(200)));
            dueQuiet(Due.tree(), a, a, Due.utf8("d/e/../".repeat(28)));
        }
    }

    private static void dueQuiet(FoldedNames x, int a, int b, byte[] text) {
        String with = " with " + a + " and " + b + " and" + Due.told(text);
        Due.due("about" + with, thrown(() -> x.about(a, b)), b < 0 || b > 5);
        Due.due("letter" + with, thrown(() -> x.letter(a, b, a)), b != 0 && b != 1);
        Due.due("letter" + with, thrown(() -> x.letter(a, 1, b)), false);
        Due.due("entry" + with, thrown(() -> x.entry(a, b)), false);
        Due.due("sorted" + with, thrown(() -> x.sorted(a, b)), false);
        Due.due("folded" + with, thrown(() -> x.folded(a)), false);
        Due.due("fold" + with, thrown(() -> Due.feed(x, text).fold()), false);
        Due.due("check" + with, thrown(() -> Due.feed(x, text).check()), false);
        Due.due("walk" + with, thrown(() -> Due.feed(x, text).walk(a)), false);
        Due.due("find" + with, thrown(() -> Due.feed(x, text).find(a)), false);
        Due.due("move" + with, thrown(() -> Due.feed(x, text).move(a, b)), false);
        Due.due("put" + with, thrown(() -> Due.feed(x, text).put(a, b > 0)), false);
        Due.due("remove" + with, thrown(() -> x.remove(a)), false);
        Due.due("feed" + with, thrown(() -> x.feed(a, b)), a < 1 || a > 8);
    }

    private static boolean thrown(Runnable run) {
        try {
            run.run();
            return false;
        } catch (IllegalArgumentException e) {
            return true;
        }
    }
}
