/** Sentences of the promises 9 to 17 (cells) that name a boundary case. */
public final class EdgesCellsTest extends Checks {
    private static final String NO_CELL =
            "Throws `IndexOutOfBoundsException` if there is no such replica, or it does not show such a row or column";
    private static final String FULL_LOG = "Throws `IllegalStateException` if the log has 40 operations";
    private static final String CLOCK = "Returns the clock of the replica then.";

    // ---- steps and answers for many of them

    /** The clocks are 0, 1 and 2, and the last cell has the number 0 (none), 10 and 20. */
    private static void noneOneTwo(SharedSheet x) {
        x.setNumber(1, 2, 2, 10);
        x.setNumber(2, 2, 2, 0);
        x.setNumber(2, 2, 2, 20);
    }

    private static void formulasOfOneToThree(SharedSheet x) {
        formula(x, 0, 0, 0, "1");
        formula(x, 1, 0, 0, "12");
        formula(x, 2, 0, 0, "123");
    }

    private static long numberOf(SharedSheet x, int row, int column) {
        return 10 * row + column + 1;
    }

    /** Four by two cells, with numbers that tell where they are. */
    private static void numbered(SharedSheet x) {
        fourByTwo(x);
        for (int k = 0; k < 8; k++) {
            x.setNumber(0, k / 2, k % 2, (int) numberOf(x, k / 2, k % 2));
        }
    }

    private static void numberedByFormulas(SharedSheet x) {
        fourByTwo(x);
        for (int k = 0; k < 8; k++) {
            formula(x, 0, k / 2, k % 2, "" + numberOf(x, k / 2, k % 2));
        }
    }

    private static void twoErrors(SharedSheet x) {
        fourByTwo(x);
        formula(x, 0, 3, 1, "9999*9999*99");
        formula(x, 0, 2, 0, "A3");
    }

    /** The numbers of the lines that four by two shows at the positions. */
    private static long numbersOfLines(SharedSheet x, int row, int column) {
        return 100 * row + 2 * column;
    }

    /** The numbers of the lines of the cell that a call at replica 0 writes. */
    private static QuestionAtCell cellWrittenBy(QuestionAtCell call) {
        return (x, row, column) -> {
            call.of(x, row, column);
            int last = logLength(x, 0) - 1;
            return 100 * x.operation(0, last, 3) + x.operation(0, last, 4);
        };
    }

    private static long numberWritten(SharedSheet x, int row, int column) {
        x.write(0, row, column);
        return Long.parseLong(text(x));
    }

    // ---- writing

    private static void setNumber() {
        holdsAtEachReplica("Promise 9", EdgesCellsTest::noneOneTwo, (x, r) -> x.setNumber(r, 0, 0, 5), 1, 2, 3);
        holdsAtEachCell("Promise 9", Checks::fourByTwo,
                cellWrittenBy((x, row, column) -> x.setNumber(0, row, column, 5)), EdgesCellsTest::numbersOfLines);
        holds("Promise 9", CLOCK, () -> clockIsAnswered((x, r) -> x.setNumber(r, 0, 0, 5)));
        holds("Promise 9", NO_CELL, () -> {
            refusesOtherReplicas(Checks::nothing, (x, r) -> x.setNumber(r, 0, 0, 1));
            refusesOtherCells((x, row, column) -> x.setNumber(0, row, column, 1));
        });
        holds("Promise 9", "Throws `IllegalArgumentException` if number is out of range", () -> {
            for (int number : new int[] {Integer.MIN_VALUE, -65536, -10000, 10000, 65536, Integer.MAX_VALUE}) {
                refusedAfter(Checks::nothing, ARGUMENT, "setNumber " + number, x -> x.setNumber(0, 0, 0, number));
            }
            for (int number : new int[] {-9999, -1, 0, 1, 9999}) {
                SharedSheet x = new SharedSheet();
                x.setNumber(0, 0, 0, number);
                due("the number", x.cell(0, 0, 0, 3), number);
                due("its kind", x.cell(0, 0, 0, 0), 1);
                valueIs(x, 0, 0, number);
            }
        });
        holds("Promise 9", FULL_LOG, () -> needsRoomInLog((x, r) -> x.setNumber(r, 0, 0, 1)));
    }

    private static void clearCell() {
        holdsAtEachReplica("Promise 10", EdgesCellsTest::noneOneTwo, (x, r) -> x.clearCell(r, 0, 0), 1, 2, 3);
        holdsAtEachCell("Promise 10", Checks::fourByTwo,
                cellWrittenBy((x, row, column) -> x.clearCell(0, row, column)), EdgesCellsTest::numbersOfLines);
        holds("Promise 10", "Makes a cell empty.", () -> {
            SharedSheet x = new SharedSheet();
            x.clearCell(0, 2, 2);
            due("an empty one", x.cell(0, 2, 2, 0), 0);
            stampIs(x, 0, 2, 2, 1, 0);
            x.setNumber(0, 2, 2, -7);
            x.clearCell(0, 2, 2);
            due("one with a number", x.cell(0, 2, 2, 0) + x.cell(0, 2, 2, 3), 0);
            valueIs(x, 2, 2, 0);
            formula(x, 0, 2, 2, "C3");
            x.clearCell(0, 2, 2);
            due("one with a formula", x.cell(0, 2, 2, 0) + x.cell(0, 2, 2, 4) + x.cell(0, 2, 2, 6), 0);
            valueIs(x, 2, 2, 0);
            orderIs(x, 0);
        });
        holds("Promise 10", CLOCK, () -> clockIsAnswered((x, r) -> x.clearCell(r, 0, 0)));
        holds("Promise 10", NO_CELL, () -> {
            refusesOtherReplicas(Checks::nothing, (x, r) -> x.clearCell(r, 0, 0));
            refusesOtherCells((x, row, column) -> x.clearCell(0, row, column));
        });
        holds("Promise 10", FULL_LOG, () -> needsRoomInLog((x, r) -> x.clearCell(r, 0, 0)));
    }

    private static void setFormula() {
        holdsAtEachReplica("Promise 11", EdgesCellsTest::noneOneTwo, (x, r) -> formula(x, r, 0, 0, "5"), 1, 2, 3);
        holdsAtEachCell("Promise 11", Checks::fourByTwo,
                cellWrittenBy((x, row, column) -> formula(x, 0, row, column, "5")), EdgesCellsTest::numbersOfLines);
        holds("Promise 11", "Writes the formula of the text into a cell; the text stays.", () -> {
            SharedSheet x = new SharedSheet();
            formula(x, 0, 0, 0, "1111+1111+1111+1111+1111");
            valueIs(x, 0, 0, 5555);
            dueTrue("24 characters stay", text(x).equals("1111+1111+1111+1111+1111"));
            x.setFormula(0, 0, 1);
            valueIs(x, 0, 1, 5555);
            formula(x, 0, 0, 2, "0");
            valueIs(x, 0, 2, 0);
            due("one character stays", x.clearText(), 1);
            text(x, "8");
            valueIs(x, 0, 0, 5555);
        });
        holds("Promise 11", CLOCK, () -> clockIsAnswered((x, r) -> formula(x, r, 0, 0, "1")));
        holds("Promise 11", NO_CELL, () -> {
            refusesOtherReplicas(x -> text(x, "1"), (x, r) -> x.setFormula(r, 0, 0));
            refusesOtherCells((x, row, column) -> x.setFormula(0, row, column));
        });
        holds("Promise 11", "Throws `IllegalArgumentException` if the text has a fault at this replica", () -> {
            for (String text : new String[] {"", "+", "1+", "12345", "D1", "A4", "S(A1:B", "1 ", "#"}) {
                refusedAfter(x -> text(x, text), ARGUMENT, "the text " + text, x -> x.setFormula(0, 0, 0));
            }
            Steps fourthColumn = x -> {
                x.make(1, COLUMNS, 3);
                text(x, "D1");
            };
            refusedAfter(fourthColumn, ARGUMENT, "D1 at 0", x -> x.setFormula(0, 0, 0));
            answeredAfter(fourthColumn, "D1 at 1", x -> x.setFormula(1, 0, 0));
        });
        holds("Promise 11", FULL_LOG, () -> needsRoomInLog((x, r) -> formula(x, r, 0, 0, "1")));
    }

    /** The clock at first, behind operations of its own, and behind a greater one that came. */
    private static void clockIsAnswered(QuestionAtReplica call) {
        SharedSheet x = new SharedSheet();
        due("the first", call.of(x, 1), 1);
        due("the second", call.of(x, 1), 2);
        due("of another replica", call.of(x, 2), 1);
        x.receive(2, 1, 2);
        due("behind the clock that came", call.of(x, 2), 3);
        due("clock(2)", x.clock(2), 3);
        fillLog(x, 1);
        x.undo();
        due("the 40th", call.of(x, 1), 40);
    }

    private static void needsRoomInLog(QuestionAtReplica call) {
        refusedAfter(x -> {
            text(x, "1");
            fillLog(x, 1);
        }, STATE, "with a full log", x -> call.of(x, 1));
        answeredAfter(x -> fillLog(x, 1), "another log", x -> call.of(x, 0));
        answeredAfter(x -> {
            fillLog(x, 1);
            x.undo();
        }, "as the 40th", x -> call.of(x, 1));
    }

    // ---- cell

    private static void cell() {
        holdsAtEachReplica("Promise 12", EdgesCellsTest::noneOneTwo, (x, r) -> x.cell(r, 2, 2, 3), 0, 10, 20);
        holdsAtEachCell("Promise 12", EdgesCellsTest::numbered, (x, row, column) -> x.cell(0, row, column, 3),
                EdgesCellsTest::numberOf);
        holds("Promise 12", "0 its kind (0 empty, 1 number, 2 formula)", () -> {
            SharedSheet x = new SharedSheet();
            due("never written", x.cell(0, 0, 0, 0), 0);
            x.setNumber(0, 0, 0, 0);
            due("the number 0", x.cell(0, 0, 0, 0), 1);
            formula(x, 0, 0, 0, "0");
            due("the formula 0", x.cell(0, 0, 0, 0), 2);
            x.clearCell(0, 0, 0);
            due("emptied", x.cell(0, 0, 0, 0), 0);
        });
        holds("Promise 12", "1 the clock and 2 the replica of its stamp (NONE if it was never written)", () -> {
            SharedSheet x = new SharedSheet();
            stampIs(x, 0, 0, 0, NONE, NONE);
            x.clearCell(0, 0, 0);
            stampIs(x, 0, 0, 0, 1, 0);
            x.undo();
            stampIs(x, 0, 0, 0, NONE, NONE);
            fillLog(x, 2);
            stampIs(x, 2, 0, 0, 40, 2);
            stampIs(x, 0, 0, 0, NONE, NONE);
        });
        holds("Promise 12", "3 its number (0 for others)", () -> {
            SharedSheet x = new SharedSheet();
            due("empty", x.cell(0, 0, 0, 3), 0);
            x.setNumber(0, 0, 0, -9999);
            due("a number", x.cell(0, 0, 0, 3), -9999);
            formula(x, 0, 0, 0, "77");
            due("a formula", x.cell(0, 0, 0, 3), 0);
            x.setNumber(0, 0, 0, 5);
            x.clearCell(0, 0, 0);
            due("emptied", x.cell(0, 0, 0, 3), 0);
        });
        holds("Promise 12", "4 how many different shown cells it refers to", EdgesCellsTest::cellsReferredTo);
        holds("Promise 12", "5 how many different shown cells refer to it", EdgesCellsTest::cellsThatRefer);
        holds("Promise 12", "6 whether it is on a cycle (0 or 1)", () -> {
            SharedSheet x = new SharedSheet();
            formula(x, 0, 0, 0, "B1+B1");
            formula(x, 0, 0, 1, "A1+B1");
            formula(x, 0, 0, 2, "A1");
            x.setNumber(0, 1, 0, 1);
            due("on two cycles", x.cell(0, 0, 1, 6), 1);
            due("on one", x.cell(0, 0, 0, 6), 1);
            due("behind a cycle", x.cell(0, 0, 2, 6), 0);
            due("a number", x.cell(0, 1, 0, 6), 0);
            due("empty", x.cell(0, 1, 1, 6), 0);
        });
    }

    private static void cellsReferredTo() {
        SharedSheet x = new SharedSheet();
        due("empty", x.cell(0, 0, 0, 4), 0);
        formula(x, 0, 0, 0, "1");
        due("no cell", x.cell(0, 0, 0, 4), 0);
        formula(x, 0, 0, 0, "A1*A1+A1");
        due("itself, named three times", x.cell(0, 0, 0, 4), 1);
        formula(x, 0, 0, 0, "S(A1:C3)+S(A1:B2)*C3");
        due("all, each once", x.cell(0, 0, 0, 4), 9);
        x.setNumber(0, 1, 0, 1);
        due("a number refers to none", x.cell(0, 1, 0, 4), 0);
        formula(x, 0, 0, 0, "B2+C3");
        x.remove(0, ROWS, 2);
        due("one is not shown", x.cell(0, 0, 0, 4), 1);
        x.remove(0, COLUMNS, 1);
        due("none is shown", x.cell(0, 0, 0, 4), 0);
        SharedSheet y = new SharedSheet();
        formula(y, 0, 1, 1, "S(A1:A3)*3");
        y.remove(0, ROWS, 0);
        due("the first corner is not shown", y.cell(0, 0, 1, 4), 1);
        due("the second corner is referred to", y.cell(0, 1, 0, 5), 1);
        y.undo();
        y.remove(0, ROWS, 2);
        due("the second corner is not shown", y.cell(0, 1, 1, 4), 1);
        due("the first corner is referred to", y.cell(0, 0, 0, 5), 1);
        y.remove(0, COLUMNS, 0);
        due("no corner is shown", y.cell(0, 1, 0, 4), 0);
        SharedSheet z = new SharedSheet();
        formula(z, 0, 0, 0, "C3");
        formula(z, 0, 0, 1, "A2+A3");
        formula(z, 0, 0, 2, "S(A2:C3)");
        due("the first of three neighbours", z.cell(0, 0, 0, 4), 1);
        due("the second", z.cell(0, 0, 1, 4), 2);
        due("the third", z.cell(0, 0, 2, 4), 6);
    }

    private static void cellsThatRefer() {
        SharedSheet x = new SharedSheet();
        due("none", x.cell(0, 0, 0, 5), 0);
        formula(x, 0, 0, 0, "A1+A1");
        due("itself, twice", x.cell(0, 0, 0, 5), 1);
        formula(x, 0, 1, 1, "S(A1:A2)-A1");
        formula(x, 0, 2, 2, "B2");
        due("by another one too, not by what refers to that", x.cell(0, 0, 0, 5), 2);
        x.remove(0, COLUMNS, 1);
        due("one is not shown", x.cell(0, 0, 0, 5), 1);
        SharedSheet y = widest();
        text(y, "A1");
        for (int k = 0; k < 34; k++) {
            y.setFormula(0, k / 12, k % 12);
            y.setFormula(1, 11 - k / 12, 11 - k % 12);
        }
        due("34 of one replica", y.cell(0, 0, 0, 5), 34);
        y.settle();
        due("68 of two", y.cell(2, 0, 0, 5), 68);
        due("what they refer to", y.cell(2, 11, 11, 4), 1);
    }

    private static void cellRefused() {
        holds("Promise 12", NO_CELL, () -> {
            for (int what = 0; what <= 6; what += 3) {
                int asked = what;
                refusesOtherReplicas(Checks::nothing, (x, r) -> x.cell(r, 0, 0, asked));
                refusesOtherCells((x, row, column) -> x.cell(0, row, column, asked));
            }
        });
        holds("Promise 12", "Throws `IllegalArgumentException` if what is not 0 to 6", () -> {
            for (int what : new int[] {Integer.MIN_VALUE, -1, 7, Integer.MAX_VALUE}) {
                refusedAfter(Checks::nothing, ARGUMENT, "what " + what, x -> x.cell(0, 0, 0, what));
            }
            for (int what = 0; what <= 6; what++) {
                int asked = what;
                answeredAfter(Checks::nothing, "what " + what, x -> x.cell(0, 0, 0, asked));
            }
        });
    }

    // ---- values

    private static void valueAndError() {
        holdsAtEachReplica("Promise 13", EdgesCellsTest::noneOneTwo, (x, r) -> x.value(r, 2, 2), 0, 10, 20);
        holdsAtEachCell("Promise 13", EdgesCellsTest::numbered, (x, row, column) -> x.value(0, row, column),
                EdgesCellsTest::numberOf);
        holds("Promise 13", "Returns the value; 0 if it has an error.", () -> {
            SharedSheet x = after(EdgesCellsTest::valuesAndErrors);
            int[] want = {1000000000, -1000000000, 0, 0, 0, 0, -9999, 9999, 0};
            for (int k = 0; k < want.length; k++) {
                due("value of cell " + k, x.value(0, k / 3, k % 3), want[k]);
            }
            SharedSheet y = new SharedSheet();
            formula(y, 0, 0, 0, "55");
            due("a value", y.value(0, 0, 0), 55);
            formula(y, 0, 0, 0, "55+A1");
            due("0 in place of what it was", y.value(0, 0, 0), 0);
        });
        holds("Promise 13", NO_CELL, () -> {
            refusesOtherReplicas(Checks::nothing, (x, r) -> x.value(r, 0, 0));
            refusesOtherCells((x, row, column) -> x.value(0, row, column));
        });
        holdsAtEachReplica("Promise 14", x -> formula(x, 1, 2, 2, "C3"), (x, r) -> x.error(r, 2, 2), 0, 1, 0);
        holdsAtEachCell("Promise 14", EdgesCellsTest::twoErrors, (x, row, column) -> x.error(0, row, column),
                (x, row, column) -> row == 3 && column == 1 ? 3 : row == 2 && column == 0 ? 1 : 0);
        holds("Promise 14", "Returns the error, 1 to 3; 0 if it has none.", () -> {
            SharedSheet x = after(EdgesCellsTest::valuesAndErrors);
            int[] want = {0, 0, 0, 1, 2, 3, 0, 0, 0};
            for (int k = 0; k < want.length; k++) {
                due("error of cell " + k, x.error(0, k / 3, k % 3), want[k]);
            }
        });
        holds("Promise 14", NO_CELL, () -> {
            refusesOtherReplicas(Checks::nothing, (x, r) -> x.error(r, 0, 0));
            refusesOtherCells((x, row, column) -> x.error(0, row, column));
        });
    }

    /** The greatest value, the least one and 0; the errors 1 to 3; the least number, the greatest one and nothing. */
    private static void valuesAndErrors(SharedSheet x) {
        x.make(0, ROWS, 3);
        formula(x, 0, 0, 0, "1000*1000*1000");
        formula(x, 0, 0, 1, "0-A1");
        formula(x, 0, 0, 2, "A1+B1");
        formula(x, 0, 1, 0, "A2");
        formula(x, 0, 1, 1, "5+A4");
        formula(x, 0, 1, 2, "A1+1");
        x.setNumber(0, 2, 0, -9999);
        x.setNumber(0, 2, 1, 9999);
        x.remove(0, ROWS, 3);
    }

    private static void write() {
        holdsAtEachReplica("Promise 15", EdgesCellsTest::formulasOfOneToThree, (x, r) -> x.write(r, 0, 0), 1, 2, 3);
        holdsAtEachCell("Promise 15", EdgesCellsTest::numberedByFormulas, EdgesCellsTest::numberWritten,
                EdgesCellsTest::numberOf);
        holds("Promise 15", "Puts the formula of a cell into the text, in place of what is there.", () -> {
            SharedSheet x = new SharedSheet();
            formula(x, 0, 0, 0, "7");
            formula(x, 0, 0, 1, "1111+2222*3333-4444+5555");
            x.clearText();
            writtenIs(x, 0, 0, 0, "7");
            writtenIs(x, 0, 0, 1, "1111+2222*3333-4444+5555");
            refused("the text is full", STATE, () -> x.type('1'));
            writtenIs(x, 0, 0, 0, "7");
            due("nothing of the old one is left", x.character(1), NONE);
            due("it can be typed on", x.type('0'), 2);
            x.setFormula(0, 0, 2);
            valueIs(x, 0, 2, 70);
        });
        holds("Promise 15", "Returns the length of the text.", () -> {
            SharedSheet x = new SharedSheet();
            formula(x, 0, 0, 0, "0000");
            due("the least", x.write(0, 0, 0), 1);
            formula(x, 0, 0, 0, "S(A1:C3)*S(B2:C3)-1000*1");
            due("the greatest", x.write(0, 0, 0), 24);
            x.remove(0, COLUMNS, 2);
            due("with # in place of two characters", x.write(0, 0, 0), 22);
        });
        holds("Promise 15", NO_CELL, () -> {
            refusesOtherReplicas(x -> formula(x, 0, 0, 0, "4"), (x, r) -> x.write(r, 0, 0));
            refusesOtherCells((x, row, column) -> x.write(0, row, column));
        });
        holds("Promise 15", "Throws `IllegalStateException` if the cell has no formula", () -> {
            refusedAfter(x -> text(x, "1"), STATE, "never written", x -> x.write(0, 0, 0));
            refusedAfter(x -> x.setNumber(0, 0, 0, 1), STATE, "a number", x -> x.write(0, 0, 0));
            refusedAfter(x -> {
                formula(x, 0, 0, 0, "1");
                x.clearCell(0, 0, 0);
            }, STATE, "emptied", x -> x.write(0, 0, 0));
            refusedAfter(x -> formula(x, 0, 0, 0, "1"), STATE, "not received", x -> x.write(1, 0, 0));
            refusedAfter(x -> {
                formula(x, 0, 0, 0, "1");
                x.undo();
            }, STATE, "undone", x -> x.write(0, 0, 0));
        });
    }

    // ---- cycles and order

    private static void cycles() {
        holdsAtEachReplica("Promise 16", x -> formula(x, 1, 0, 0, "A1"), (x, r) -> x.cycles(r), 0, 1, 0);
        holds("Promise 16", "Counts the cells that are on a cycle.", () -> {
            SharedSheet x = new SharedSheet();
            due("nothing", x.cycles(0), 0);
            formula(x, 0, 0, 0, "A1");
            due("one", x.cycles(0), 1);
            formula(x, 0, 2, 2, "B3");
            formula(x, 0, 2, 1, "C3");
            due("of two cycles", x.cycles(0), 3);
            formula(x, 0, 1, 1, "A1+C3");
            due("one that refers to both is on none", x.cycles(0), 3);
            text(x, "S(A1:C3)");
            for (int k = 0; k < 9; k++) {
                x.setFormula(0, k / 3, k % 3);
            }
            due("all", x.cycles(0), 9);
            due("another replica", x.cycles(1), 0);
            removeAll(x, 0, ROWS);
            due("none is shown", x.cycles(0), 0);
        });
        holds("Promise 16", "Throws `IndexOutOfBoundsException` if there is no such replica", () ->
            refusesOtherReplicas(Checks::nothing, (x, r) -> x.cycles(r)));
    }

    private static void order() {
        holdsAtEachReplica("Promise 17", EdgesCellsTest::formulasOfOneToThree, (x, r) -> x.order(r, r), 0, NONE, NONE);
        holds("Promise 17", "`k`: its place, from 0", () -> {
            SharedSheet x = new SharedSheet();
            formula(x, 0, 1, 2, "1");
            due("place 0", x.order(0, 0), 102);
            due("place 1", x.order(0, 1), NONE);
        });
        holds("Promise 17", "Returns 100 times the position of its row plus that of its column; NONE if there is "
                + "no such place.", () -> {
            SharedSheet x = widest();
            due("no formula", x.order(0, 0), NONE);
            formula(x, 0, 0, 0, "L9");
            formula(x, 0, 11, 11, "1");
            formula(x, 0, 8, 11, "2");
            orderIs(x, 0, 811, 0, 1111);
            due("before the first", x.order(0, -1), NONE);
            due("far before", x.order(0, Integer.MIN_VALUE), NONE);
            due("far behind", x.order(0, Integer.MAX_VALUE), NONE);
            due("as many as cells", x.order(0, 144), NONE);
            due("another replica", x.order(1, 0), NONE);
            formula(x, 0, 8, 11, "L9");
            orderIs(x, 0, 1111);
        });
        holds("Promise 17", "Throws `IndexOutOfBoundsException` if there is no such replica", () ->
            refusesOtherReplicas(Checks::nothing, (x, r) -> x.order(r, -1)));
    }

    public static void main(String[] args) {
        setNumber();
        clearCell();
        setFormula();
        cell();
        cellRefused();
        valueAndError();
        write();
        cycles();
        order();
        finishSentences();
    }
}
