/** Promises 9 and 10, move and remove. */
public final class MoveTest {
    public static void main(String[] args) {
        becomesTheLastEntry();
        alsoWhereItIs();
        withTheTapeAsItsName();
        withTheNameThatItHad();
        answersWhereItWas();
        takesAlongWhatIsInIt();
        anotherFoldsAlike();
        itselfFoldsAlike();
        anotherFoldsAlikeToTheNameThatItHad();
        intoItself();
        notIntoItself();
        withoutRoom();
        roomWhereItIs();
        roomOfNodes();
        movesNoNode();
        movesNotTheRoot();
        movesIntoNoDirectory();
        isNotThereAnyMore();
        answersTheDirectory();
        removesWhatHasEntries();
        removesTheRoot();
        removesNoNode();
        Due.end();
    }

    private static void becomesTheLastEntry() {
        Due.sentence("A NODE becomes the last ENTRY of a DIRECTORY");
        FoldedNames x = Due.tree();
        Due.due("move(2, 0)", x.move(2, 0), 1);
        Due.dueRow("entry(0)", k -> x.entry(0, k), 1, 4, 2);
        Due.dueRow("entry(1)", k -> x.entry(1, k), 5);
        Due.dueRow("sorted(1)", k -> x.sorted(1, k), 5);
        Due.due("move(4, 5)", x.move(4, 5), 0);
        Due.dueRow("entry(0)", k -> x.entry(0, k), 1, 2);
        Due.dueRow("entry(5)", k -> x.entry(5, k), 4);
        Due.due("about(4, 1)", x.about(4, 1), 5);
        Due.due("nodes()", x.nodes(), 6);
    }

    private static void alsoWhereItIs() {
        Due.sentence("(also of that in which it is)");
        FoldedNames x = Due.tree();
        Due.put(x, 0, false, "z");
        Due.due("move the first", x.move(1, 0), 0);
        Due.dueRow("entry(0)", k -> x.entry(0, k), 4, 6, 1);
        Due.due("move the one between", x.move(6, 0), 0);
        Due.dueRow("entry(0)", k -> x.entry(0, k), 4, 1, 6);
        Due.due("move the last", x.move(6, 0), 0);
        Due.dueRow("entry(0)", k -> x.entry(0, k), 4, 1, 6);
        Due.dueRow("sorted(0)", k -> x.sorted(0, k), 1, 4, 6);
        Due.due("move with another NAME", Due.move(x, 4, 0, "a"), 0);
        Due.dueRow("entry(0)", k -> x.entry(0, k), 1, 6, 4);
        Due.dueRow("sorted(0)", k -> x.sorted(0, k), 4, 1, 6);
    }

    private static void withTheTapeAsItsName() {
        Due.sentence("with THE TAPE as its NAME");
        FoldedNames x = Due.tree();
        Due.move(x, 4, 1, "\u00c9x");
        Due.dueRow("letter(4, 0)", k -> x.letter(4, 0, k), 195, 137, 120);
        Due.dueRow("letter(4, 1)", k -> x.letter(4, 1, k), 101, 769, 120);
        Due.due("about(4, 3)", x.about(4, 3), 3);
        Due.due("find by its new NAME", Due.find(x, 1, "e\u0301X"), 4);
        Due.due("find by its old NAME", Due.find(x, 1, "leaf"), -1);
        Due.due("find where it was", Due.find(x, 0, "leaf"), -1);
        Due.due("move to 60 octets", Due.move(x, 4, 1, "\u00c9".repeat(30)), 1);
        Due.due("letter(4, 1, 59)", x.letter(4, 1, 59), 769);
        Due.due("move to one octet", Due.move(x, 4, 1, "X"), 1);
        Due.dueRow("letter(4, 1)", k -> x.letter(4, 1, k), 120);
    }

    private static void withTheNameThatItHad() {
        Due.sentence("(if that has no octets: with the one that it had)");
        FoldedNames x = Due.tree();
        Due.put(x, 0, false, "\u00c9x");
        Due.find(x, 0, "other");
        Due.due("move(6, 1)", x.move(6, 1), 0);
        Due.dueRow("letter(6, 0)", k -> x.letter(6, 0, k), 195, 137, 120);
        Due.dueRow("letter(6, 1)", k -> x.letter(6, 1, k), 101, 769, 120);
        Due.due("find there", Due.find(x, 1, "e\u0301X"), 6);
        Due.due("find where it was", Due.find(x, 0, "e\u0301X"), -1);
        Due.dueRow("sorted(1)", k -> x.sorted(1, k), 2, 6, 5);
    }

    private static void answersWhereItWas() {
        Due.sentence("Answers where it was an ENTRY before");
        FoldedNames x = Due.tree();
        Due.due("move(3, 0)", x.move(3, 0), 2);
        Due.due("move(3, 5)", x.move(3, 5), 0);
        Due.due("move(3, 5) again", x.move(3, 5), 5);
        Due.due("move(5, 2)", x.move(5, 2), 1);
    }

    private static void takesAlongWhatIsInIt() {
        Due.sentence("A NODE becomes the last ENTRY: what is in it stays in it");
        FoldedNames x = Due.tree();
        Due.due("move(2, 5)", Due.move(x, 2, 5, "h"), 1);
        Due.due("walk", Due.walk(x, 0, "d/g/h/f"), 3);
        Due.due("about(3, 1)", x.about(3, 1), 2);
        Due.due("about(3, 5)", x.about(3, 5), 4);
        Due.dueRow("entry(2)", k -> x.entry(2, k), 3);
    }

    private static void anotherFoldsAlike() {
        Due.sentence("THERE: another ENTRY there has a NAME that folds alike");
        FoldedNames x = Due.tree();
        Due.due("move(3, 0) to LEAF", Due.move(x, 3, 0, "LEAF"), -3);
        Due.due("move(1, 0) to LEAF", Due.move(x, 1, 0, "LEAF"), -3);
        Due.due("move(3, 1) to E", Due.move(x, 3, 1, "E"), -3);
        Due.due("move(3, 5) to E", Due.move(x, 3, 5, "E"), 2);
    }

    private static void itselfFoldsAlike() {
        Due.sentence("THERE: another ENTRY, so not itself");
        FoldedNames x = Due.tree();
        Due.due("move(1, 0) to D", Due.move(x, 1, 0, "D"), 0);
        Due.dueRow("letter(1, 0)", k -> x.letter(1, 0, k), 'D');
        Due.due("move(1, 0) to D again", Due.move(x, 1, 0, "D"), 0);
        Due.due("move(1, 0) as it is", x.move(1, 0), 0);
        Due.due("find d", Due.find(x, 0, "d"), 1);
        Due.dueRow("entry(0)", k -> x.entry(0, k), 4, 1);
    }

    private static void anotherFoldsAlikeToTheNameThatItHad() {
        Due.sentence("THERE: also with the NAME that it had");
        FoldedNames x = Due.tree();
        Due.put(x, 1, false, "LEAF");
        Due.due("move(4, 1)", x.move(4, 1), -3);
        Due.due("move(6, 0)", x.move(6, 0), -3);
        Due.due("move(6, 5)", x.move(6, 5), 1);
        Due.due("move(4, 1) now", x.move(4, 1), 0);
    }

    private static void intoItself() {
        Due.sentence("FULL: it would come into itself");
        FoldedNames x = Due.tree();
        Due.put(x, 2, true, "h");
        Due.due("move(1, 1)", x.move(1, 1), -6);
        Due.due("move(5, 5), which is empty", x.move(5, 5), -6);
        Due.due("move(1, 2)", x.move(1, 2), -6);
        Due.due("move(1, 6)", x.move(1, 6), -6);
        Due.due("move(1, 6) to another NAME", Due.move(x, 1, 6, "new"), -6);
        Due.due("about(1, 1)", x.about(1, 1), 0);
        FoldedNames deep = Due.chain(199);
        Due.due("move(1, 199)", Due.move(deep, 1, 199, "m"), -6);
        Due.due("move(198, 199)", Due.move(deep, 198, 199, "m"), -6);
        Due.due("move(199, 199)", Due.move(deep, 199, 199, "m"), -6);
        Due.due("move(199, 1)", Due.move(deep, 199, 1, "m"), 198);
    }

    private static void notIntoItself() {
        Due.sentence("FULL: it would come into itself; up, beside and back it would not");
        FoldedNames x = Due.tree();
        Due.due("move(2, 0), up", x.move(2, 0), 1);
        Due.due("move(2, 5), in what was beside", x.move(2, 5), 0);
        Due.due("move(2, 1), back", x.move(2, 1), 5);
        Due.due("move(5, 2)", x.move(5, 2), 1);
        Due.due("move(1, 0)", x.move(1, 0), 0);
    }

    private static void withoutRoom() {
        Due.sentence("move: ROOM");
        FoldedNames x = Due.treeWithoutRoom();
        Due.due("move(4, 5)", x.move(4, 5), -4);
        Due.due("move(4, 5) to another NAME", Due.move(x, 4, 5, "new"), -4);
        Due.due("about(4, 1)", x.about(4, 1), 0);
        Due.due("about(5, 2)", x.about(5, 2), 40);
        Due.due("entry(5, 39)", x.entry(5, 39), 45);
        x.remove(20);
        Due.due("move(4, 5) to be the 40th", x.move(4, 5), 0);
        Due.due("entry(5, 39)", x.entry(5, 39), 4);
        Due.due("move(2, 5)", x.move(2, 5), -4);
    }

    private static void roomWhereItIs() {
        Due.sentence("move: ROOM (40 ENTRIES): not where it is one of the 40");
        FoldedNames x = Due.treeWithoutRoom();
        Due.due("move(6, 5)", x.move(6, 5), 5);
        Due.due("move(7, 5) to another NAME", Due.move(x, 7, 5, "new"), 5);
        Due.due("entry(5, 0)", x.entry(5, 0), 8);
        Due.due("entry(5, 38)", x.entry(5, 38), 6);
        Due.due("entry(5, 39)", x.entry(5, 39), 7);
        Due.due("about(5, 2)", x.about(5, 2), 40);
    }

    private static void roomOfNodes() {
        Due.sentence("move: ROOM (200 NODES): no NODE comes, so there is room");
        FoldedNames x = Due.fullTree();
        Due.due("move(199, 150)", Due.move(x, 199, 150, "more"), 4);
        Due.due("nodes()", x.nodes(), 200);
        Due.due("about(199, 1)", x.about(199, 1), 150);
    }

    private static void movesNoNode() {
        Due.sentence("move: -5, not such a NODE: none");
        FoldedNames x = Due.tree();
        for (int number : Due.NO_NUMBERS) {
            Due.due("move(" + number + ", 0)", Due.move(x, number, 0, "a"), -5);
            Due.due("move(1, " + number + ")", Due.move(x, 1, number, "a"), -5);
        }
        x.remove(5);
        Due.due("move(5, 0) of what is gone", Due.move(x, 5, 0, "a"), -5);
        Due.due("move(4, 5) into what is gone", Due.move(x, 4, 5, "a"), -5);
    }

    private static void movesNotTheRoot() {
        Due.sentence("move: -5, the ROOT, where it can't be");
        FoldedNames x = Due.tree();
        Due.due("move(0, 1)", x.move(0, 1), -5);
        Due.due("move(0, 0)", x.move(0, 0), -5);
        Due.due("move(0, 1) to a NAME", Due.move(x, 0, 1, "a"), -5);
        Due.due("about(0, 1)", x.about(0, 1), -1);
        Due.due("about(0, 3)", x.about(0, 3), 0);
    }

    private static void movesIntoNoDirectory() {
        Due.sentence("move: -5, no DIRECTORY where one has to be");
        FoldedNames x = Due.tree();
        Due.due("move(1, 4)", Due.move(x, 1, 4, "a"), -5);
        Due.due("move(4, 4)", x.move(4, 4), -5);
        Due.due("about(4, 2)", x.about(4, 2), 0);
    }

    private static void isNotThereAnyMore() {
        Due.sentence("A NODE is not there any more");
        FoldedNames x = Due.tree();
        x.remove(2);
        x.remove(3);
        x.remove(2);
        Due.due("nodes()", x.nodes(), 4);
        Due.due("about(2, 0)", x.about(2, 0), -5);
        Due.due("about(3, 1)", x.about(3, 1), -5);
        Due.due("entry(2, 0)", x.entry(2, 0), -5);
        Due.due("sorted(2, 0)", x.sorted(2, 0), -5);
        Due.due("letter(2, 0, 0)", x.letter(2, 0, 0), -5);
        Due.due("walk(2)", x.walk(2), -5);
        Due.due("find e", Due.find(x, 1, "e"), -1);
        Due.dueRow("entry(1)", k -> x.entry(1, k), 5);
        Due.dueRow("sorted(1)", k -> x.sorted(1, k), 5);
        Due.due("put e again", Due.put(x, 1, false, "E"), 2);
        Due.dueRow("entry(1)", k -> x.entry(1, k), 5, 2);
        Due.dueRow("sorted(1)", k -> x.sorted(1, k), 2, 5);
    }

    private static void answersTheDirectory() {
        Due.sentence("Answers the DIRECTORY in which it was");
        FoldedNames x = Due.tree();
        Due.due("remove(3)", x.remove(3), 2);
        Due.due("remove(2)", x.remove(2), 1);
        Due.due("remove(4)", x.remove(4), 0);
        x.move(5, 0);
        Due.due("remove(5) behind a move", x.remove(5), 0);
        Due.due("remove(1)", x.remove(1), 0);
        Due.due("nodes()", x.nodes(), 1);
    }

    private static void removesWhatHasEntries() {
        Due.sentence("FULL: it is a DIRECTORY that has ENTRIES");
        FoldedNames x = Due.tree();
        Due.due("remove(1)", x.remove(1), -6);
        Due.due("remove(2) with one ENTRY", x.remove(2), -6);
        Due.due("nodes()", x.nodes(), 6);
        Due.due("about(2, 1)", x.about(2, 1), 1);
        Due.due("remove(5), which is empty", x.remove(5), 1);
        x.move(3, 0);
        Due.due("remove(2), whose ENTRY went", x.remove(2), 1);
    }

    private static void removesTheRoot() {
        Due.sentence("remove: -5, the ROOT, where it can't be");
        Due.due("remove(0) when it is empty", new FoldedNames().remove(0), -5);
        FoldedNames x = Due.tree();
        Due.due("remove(0) when it is not", x.remove(0), -5);
        Due.due("nodes()", x.nodes(), 6);
    }

    private static void removesNoNode() {
        Due.sentence("remove: -5, not such a NODE: none");
        FoldedNames x = Due.tree();
        for (int number : Due.NO_NUMBERS) {
            Due.due("remove(" + number + ")", x.remove(number), -5);
        }
        x.remove(3);
        Due.due("remove(3) again", x.remove(3), -5);
        Due.due("nodes()", x.nodes(), 5);
    }
}
