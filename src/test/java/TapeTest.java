import java.util.function.ToIntFunction;

/** THE TAPE of "Terms", and promise 2, feed. */
public final class TapeTest {
    private static final long LETTERS = 0x6161616161616161L;
    private static final byte[] WRONG_TEXT = Due.octets(97, 255);

    public static void main(String[] args) {
        atMost200();
        usedUpByReading();
        usedUpWithoutRoom();
        leftByWhatReadsNothing();
        lowestOctets();
        lowestFirst();
        behindTheTape();
        answersItsSize();
        nTooSmall();
        nTooLarge();
        moreThan200();
        refusedChangesNothing();
        Due.end();
    }

    private static FoldedNames filled(int size) {
        FoldedNames x = new FoldedNames();
        for (int left = size; left > 0; left -= 8) {
            x.feed(Math.min(left, 8), LETTERS);
        }
        return x;
    }

    private static void atMost200() {
        Due.sentence("THE TAPE has at most 200 octets");
        Due.due("feed(8) to 200", filled(192).feed(8, LETTERS), 200);
        Due.due("feed(1) to 200", filled(199).feed(1, LETTERS), 200);
        Due.due("fold() of 200", filled(200).fold(), 200);
        Due.dueThrow("feed(1) to 201", () -> filled(200).feed(1, LETTERS));
        FoldedNames x = filled(199);
        x.feed(1, 255L);
        Due.due("check() of 200, the last one wrong", x.check(), 199);
    }

    private static void usedUpByReading() {
        Due.sentence("what reads it uses it up");
        dueUsedUp("check", Due.utf8("a"), FoldedNames::check, -1);
        dueUsedUp("check", WRONG_TEXT, FoldedNames::check, 1);
        dueUsedUp("fold", Due.utf8("a"), FoldedNames::fold, 1);
        dueUsedUp("fold", WRONG_TEXT, FoldedNames::fold, -2);
        dueUsedUp("put", Due.utf8("new"), x -> x.put(0, true), 6);
        dueUsedUp("put", Due.utf8("D"), x -> x.put(0, true), -3);
        dueUsedUp("put", WRONG_TEXT, x -> x.put(0, true), -2);
        dueUsedUp("put", Due.utf8("new"), x -> x.put(9, true), -5);
        dueUsedUp("find", Due.utf8("D"), x -> x.find(0), 1);
        dueUsedUp("find", Due.utf8("new"), x -> x.find(0), -1);
        dueUsedUp("find", WRONG_TEXT, x -> x.find(0), -2);
        dueUsedUp("find", Due.utf8("D"), x -> x.find(4), -5);
        dueUsedUp("walk", Due.utf8("d/e"), x -> x.walk(0), 2);
        dueUsedUp("walk", Due.utf8("new/a"), x -> x.walk(0), -1);
        dueUsedUp("walk", WRONG_TEXT, x -> x.walk(0), -2);
        dueUsedUp("walk", Due.utf8("d/e"), x -> x.walk(9), -5);
        dueUsedUp("move", Due.utf8("new"), x -> x.move(3, 0), 2);
        dueUsedUp("move", Due.utf8("LEAF"), x -> x.move(3, 0), -3);
        dueUsedUp("move", Due.utf8("new"), x -> x.move(1, 2), -6);
        dueUsedUp("move", WRONG_TEXT, x -> x.move(3, 0), -2);
        dueUsedUp("move", Due.utf8("new"), x -> x.move(0, 1), -5);
    }

    private static void dueUsedUp(
            String call, byte[] text, ToIntFunction<FoldedNames> read, int want) {
        FoldedNames x = Due.feed(Due.tree(), text);
        Due.due(call + " of" + Due.told(text), read.applyAsInt(x), want);
        Due.due("feed behind " + call + " = " + want, x.feed(1, 'z'), 1);
        Due.due("fold() behind " + call + " = " + want, x.fold(), 1);
        Due.due("folded(0) behind " + call + " = " + want, x.folded(0), 'z');
    }

    private static void usedUpWithoutRoom() {
        Due.sentence("what reads it uses it up: also where there is no room");
        FoldedNames x = Due.treeWithoutRoom();
        Due.due("put", Due.put(x, 5, true, "new"), -4);
        Due.due("feed behind put", x.feed(1, 'z'), 1);
        Due.due("move", Due.move(x, 4, 5, "new"), -4);
        Due.due("feed behind move", x.feed(1, 'z'), 1);
    }

    private static void leftByWhatReadsNothing() {
        Due.sentence("what reads it: what does not read it leaves it");
        FoldedNames x = Due.feed(Due.tree(), "kep");
        x.folded(0);
        x.remove(3);
        x.remove(0);
        x.about(1, 3);
        x.entry(0, 0);
        x.sorted(0, 0);
        x.letter(1, 0, 0);
        x.nodes();
        Due.due("feed", x.feed(1, 't'), 4);
        Due.due("put", x.put(0, false), 3);
        Due.dueRow("letter of 3", k -> x.letter(3, 0, k), 'k', 'e', 'p', 't');
    }

    private static void lowestOctets() {
        Due.sentence("The n lowest octets of a long");
        for (int n = 1; n <= 8; n++) {
            FoldedNames x = new FoldedNames();
            // All octets above the n lowest ones are wrong in a text.
            long octets = n == 8 ? 0L : -1L << (8 * n);
            Due.due("feed(" + n + ")", x.feed(n, octets), n);
            Due.due("check() behind feed(" + n + ")", x.check(), -1);
        }
    }

    private static void lowestFirst() {
        Due.sentence("the lowest first");
        FoldedNames x = new FoldedNames();
        x.feed(8, 0x0807060504030201L);
        x.fold();
        Due.dueRow("folded", x::folded, 1, 2, 3, 4, 5, 6, 7, 8);
        // Octets from 128 on, the highest one too, which makes the long less than 0.
        x.feed(8, 0x8080809080C4BFC3L);
        Due.due("check()", x.check(), 4);
        x.feed(8, 0xBFBF8FF4BFBFEF7FL);
        Due.due("fold()", x.fold(), 3);
        Due.dueRow("folded", x::folded, 127, 65535, 1114111);
    }

    private static void behindTheTape() {
        Due.sentence("come behind THE TAPE");
        FoldedNames x = new FoldedNames();
        x.feed(2, 0x0201L);
        x.feed(1, 0x03L);
        x.feed(3, 0x060504L);
        x.fold();
        Due.dueRow("folded", x::folded, 1, 2, 3, 4, 5, 6);
    }

    private static void answersItsSize() {
        Due.sentence("Answers its size");
        FoldedNames x = new FoldedNames();
        int size = 0;
        for (int n = 1; n <= 8; n++) {
            size += n;
            Due.due("feed(" + n + ")", x.feed(n, LETTERS), size);
        }
    }

    private static void nTooSmall() {
        Due.sentence("IllegalArgumentException: n is not 1 .. 8: too small");
        FoldedNames x = new FoldedNames();
        Due.dueThrow("feed(0)", () -> x.feed(0, LETTERS));
        Due.dueThrow("feed(-1)", () -> x.feed(-1, LETTERS));
        Due.dueThrow("feed(-8)", () -> x.feed(-8, LETTERS));
        Due.dueThrow("feed(least)", () -> x.feed(Integer.MIN_VALUE, LETTERS));
        Due.due("feed(1)", x.feed(1, LETTERS), 1);
    }

    private static void nTooLarge() {
        Due.sentence("IllegalArgumentException: n is not 1 .. 8: too large");
        FoldedNames x = new FoldedNames();
        Due.dueThrow("feed(9)", () -> x.feed(9, LETTERS));
        Due.dueThrow("feed(most)", () -> x.feed(Integer.MAX_VALUE, LETTERS));
        Due.dueThrow("feed(9) to a full one", () -> filled(200).feed(9, LETTERS));
        Due.due("feed(8)", x.feed(8, LETTERS), 8);
        // The sum of the size and n wraps around here.
        Due.dueThrow("feed(most) behind 8", () -> x.feed(Integer.MAX_VALUE, LETTERS));
    }

    private static void moreThan200() {
        Due.sentence("IllegalArgumentException: there would be more than 200");
        for (int n = 1; n <= 8; n++) {
            int many = n;
            Due.dueThrow("feed(" + n + ") to 201", () -> filled(201 - many).feed(many, LETTERS));
            Due.due("feed(" + n + ") to 200", filled(200 - n).feed(n, LETTERS), 200);
        }
    }

    private static void refusedChangesNothing() {
        Due.sentence("a call that throws changes nothing: feed");
        FoldedNames x = filled(197);
        Due.dueThrow("feed(4) to 201", () -> x.feed(4, -1L));
        Due.dueThrow("feed(9)", () -> x.feed(9, -1L));
        Due.dueThrow("feed(0)", () -> x.feed(0, -1L));
        Due.due("feed(3) to 200", x.feed(3, LETTERS), 200);
        Due.dueThrow("feed(1) to 201", () -> x.feed(1, -1L));
        Due.due("fold()", x.fold(), 200);
        Due.due("folded(197)", x.folded(197), 'a');
        Due.due("folded(199)", x.folded(199), 'a');
    }
}
