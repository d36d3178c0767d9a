/** Sentences of "Terms", CELLS, FORMULAS and VALUES, that name a boundary case. */
public final class TermsCellsTest extends Checks {
    private static final String CELLS = "Terms, CELLS";
    private static final String FORMULAS = "Terms, FORMULAS";
    private static final String VALUES = "Terms, VALUES";

    // ---- cells

    private static void cells() {
        holds(CELLS, "For each pair of a row and a column there is a cell, with a content and a stamp at each "
                + "replica; at first it is empty (as if it had a stamp with clock -1).", () -> {
            SharedSheet x = widest();
            for (int row = 0; row < 12; row += 11) {
                for (int column = 0; column < 12; column += 11) {
                    due("kind", x.cell(1, row, column, 0), 0);
                    stampIs(x, 1, row, column, NONE, NONE);
                }
            }
            SharedSheet y = new SharedSheet();
            y.setNumber(0, 0, 0, 8);
            due("the earliest stamp of all writes", y.value(0, 0, 0), 8);
            y.receive(2, 0, 1);
            due("also elsewhere", y.value(2, 0, 0), 8);
            due("and nowhere else", y.value(1, 0, 0), 0);
        });
        holds(CELLS, "The content is empty, a number from -9999 to 9999, or a formula.", () -> {
            SharedSheet x = new SharedSheet();
            x.setNumber(0, 0, 0, -9999);
            x.setNumber(0, 0, 1, 9999);
            formula(x, 0, 0, 2, "9999");
            due("kind", x.cell(0, 0, 0, 0), 1);
            due("number", x.cell(0, 0, 0, 3), -9999);
            due("number", x.cell(0, 0, 1, 3), 9999);
            due("kind", x.cell(0, 0, 2, 0), 2);
            due("kind", x.cell(0, 1, 1, 0), 0);
            refused("10000", ARGUMENT, () -> x.setNumber(0, 0, 0, 10000));
            refused("-10000", ARGUMENT, () -> x.setNumber(0, 0, 0, -10000));
        });
        holds(CELLS, "4 write: a cell gets a content, if the stamp of the operation is later than that of the cell "
                + "(with this stamp then).", TermsCellsTest::laterWrites);
        holds(CELLS, "A cell is shown if its row and its column are shown.", TermsCellsTest::shownCells);
    }

    private static void laterWrites() {
        SharedSheet x = new SharedSheet();
        x.setNumber(0, 0, 0, 10);
        formula(x, 1, 0, 0, "11");
        x.settle();
        due("equal clocks, from the greater replica", x.cell(0, 0, 0, 0), 2);
        stampIs(x, 0, 0, 0, 1, 1);
        due("equal clocks, from the lesser replica", x.cell(1, 0, 0, 0), 2);
        stampIs(x, 1, 0, 0, 1, 1);
        x.clearCell(0, 0, 0);
        x.setNumber(2, 1, 1, 5);
        x.setNumber(2, 0, 0, 13);
        x.receive(2, 0, 2);
        due("(2, 0) behind (3, 2)", x.value(2, 0, 0), 13);
        x.receive(0, 2, 1);
        due("empty with (2, 0)", x.cell(0, 0, 0, 0), 0);
        stampIs(x, 0, 0, 0, 2, 0);
        x.receive(0, 2, 1);
        due("(3, 2) behind (2, 0)", x.value(0, 0, 0), 13);
        stampIs(x, 0, 0, 0, 3, 2);
        SharedSheet y = new SharedSheet();
        y.setNumber(0, 0, 0, 7);
        y.clearCell(1, 0, 0);
        y.receive(1, 0, 1);
        due("(1, 0) behind an emptying (1, 1)", y.cell(1, 0, 0, 0), 0);
        stampIs(y, 1, 0, 0, 1, 1);
    }

    private static void shownCells() {
        SharedSheet x = new SharedSheet();
        formula(x, 0, 1, 1, "C3");
        x.setNumber(0, 2, 2, 6);
        x.remove(0, COLUMNS, 2);
        due("its column is gone", x.cell(0, 1, 1, 4), 0);
        x.undo();
        x.remove(0, ROWS, 2);
        due("its row is gone", x.cell(0, 1, 1, 4), 0);
        x.undo();
        due("both are there", x.cell(0, 1, 1, 4), 1);
        SharedSheet y = new SharedSheet();
        y.make(0, ROWS, 0);
        y.receive(1, 0, 1);
        y.setNumber(1, 0, 0, 44);
        y.receive(2, 1, 1);
        due("written where the row is not made yet", y.different(2, 1), 0);
        due("and not shown", y.value(2, 0, 0), 0);
        y.receive(2, 0, 1);
        due("shown with what was written before", y.value(2, 0, 0), 44);
    }

    // ---- formulas

    private static void texts() {
        holds(FORMULAS, "A formula is made from a text of at most 24 characters by this grammar (without spaces), "
                + "where positions are those of the replica at which it is made:", () -> {
            SharedSheet x = new SharedSheet();
            x.setNumber(0, 0, 0, 3);
            formula(x, 0, 1, 1, "A1+A1*S(A1:A1)-A1*1000*2");
            valueIs(x, 1, 1, 12 - 6000);
            refused("a 25th character", STATE, () -> x.type('1'));
            faultIs(x, " 1", 0);
            faultIs(x, "1 ", 1);
            faultIs(x, "1 +1", 1);
            faultIs(x, "1+ 1", 2);
            faultIs(x, "A 1", 1);
            faultIs(x, "S( A1:A1)", 2);
            x.move(1, ROWS, 0, 2);
            formula(x, 1, 0, 0, "A1");
            x.settle();
            writtenIs(x, 1, 0, 0, "A1");
            writtenIs(x, 2, 0, 0, "A1");
            due("the row that replica 1 had at position 0", x.position(0, ROWS, 1), 0);
        });
        holds(FORMULAS, "formula = term { ( \"+\" | \"-\" ) term }", () -> {
            SharedSheet x = new SharedSheet();
            valuesAre(x, "1", 1, "1+2", 3, "1-2", -1, "9-3-2", 4, "9-3+2", 8, "1+1+1+1+1+1+1+1+1+1+1+11", 22);
            faultsAre(x, "", 0, "+", 0, "+1", 0, "-1", 0, "1+", 2, "1-", 2, "1+-1", 2, "1--1", 2,
                    "1,2", 1, "1/1", 1, "1.5", 1);
        });
        holds(FORMULAS, "term = factor { \"*\" factor }", () -> {
            SharedSheet x = new SharedSheet();
            valuesAre(x, "7", 7, "2*3", 6, "2*3*4", 24, "1*1*1*1*1*1*1*1*1*1*1*99", 99);
            faultsAre(x, "*", 0, "*1", 0, "1*", 2, "1**1", 2, "1*+1", 2, "1+*1", 2, "1)", 1, "(1)", 0);
        });
        holds(FORMULAS, "factor = number | cell | \"S(\" cell \":\" cell \")\"", () -> {
            SharedSheet x = new SharedSheet();
            x.setNumber(0, 0, 0, 4);
            valuesAre(x, "5", 5, "A1", 4, "S(A1:A1)", 4, "S(A1:C1)*S(A1:A3)*A1*1", 64);
            faultsAre(x, "S", 1, "S(", 2, "S(A", 3, "S(A1", 4, "S(A1:", 5, "S(A1:B", 6, "S(A1:B2", 7, "s(A1:B2)", 0,
                    "SA1:B2)", 1, "S(1:B2)", 2, "S(A1)", 4, "S(A1;B2)", 4, "S(A1:1)", 5, "S(A1:B2:", 7, "S(A1:B2)A1", 8,
                    "S(A1:B2)1", 8, "S(S(A1:B2):B2)", 2, "S(A1+B2)", 4, "S((", 2, "S(:", 2, "S()", 2, "S(A)", 3,
                    "S(A:B2)", 3, "S(:B2)", 2, "S(A1:)", 5, "S(A1:B)", 6, "S(A1:B2+", 7);
        });
        holds(FORMULAS, "cell = column row", () -> faultsAre(new SharedSheet(), "A1", NONE, "1A", 1, "A", 1, "AA1", 1,
                "A1A", 2, "A11", 2, "a1", 0, "$A1", 0, "#", 0));
    }

    /** Pairs of a text and the value of its formula. */
    private static void valuesAre(SharedSheet x, Object... pairs) {
        for (int k = 0; k + 1 < pairs.length; k += 2) {
            gives(x, (String) pairs[k], (Integer) pairs[k + 1]);
        }
    }

    /** The value of a formula in the third row and column. */
    private static void gives(SharedSheet x, String text, int value) {
        formula(x, 0, 2, 2, text);
        valueIs(x, 2, 2, value);
    }

    /** The error of a formula in the third row and column. */
    private static void fails(SharedSheet x, String text, int error) {
        formula(x, 0, 2, 2, text);
        errorIs(x, 2, 2, error);
    }

    /** Pairs of a text and its fault. */
    private static void faultsAre(SharedSheet x, Object... pairs) {
        for (int k = 0; k + 1 < pairs.length; k += 2) {
            faultIs(x, (String) pairs[k], (Integer) pairs[k + 1]);
        }
    }

    private static void factors() {
        holds(FORMULAS, "A number has 1 to 4 digits.", () -> {
            SharedSheet x = new SharedSheet();
            valuesAre(x, "0", 0, "9", 9, "10", 10, "999", 999, "0000", 0, "0009", 9, "9999", 9999);
            faultsAre(x, "12345", 4, "00000", 4, "1+00001", 6, "9999*99999", 9);
        });
        holds(FORMULAS, "A column is a letter, A for position 0, B for 1 and so on (to L), a row a digit from 1 "
                + "(for position 0) to 9.", () -> {
            SharedSheet x = widest();
            x.setNumber(0, 0, 0, 10);
            x.setNumber(0, 8, 11, 20);
            x.setNumber(0, 1, 10, 30);
            valuesAre(x, "A1", 10, "L9", 20, "K2", 30);
            faultsAre(x, "@1", 0, "M1", 0, "Z1", 0, "[1", 0, "a1", 0, "l9", 0,
                    "A0", 1, "A/", 1, "A:", 1, "A10", 2, "AL", 1);
        });
        holds(FORMULAS, "Only columns and rows that the replica shows are allowed.", () -> {
            SharedSheet x = new SharedSheet();
            faultsAre(x, "C3", NONE, "D3", 0, "C4", 1, "L1", 0, "A9", 1, "S(A1:D1)", 5, "S(A1:A4)", 6, "S(D1:A1)", 2);
            x.remove(0, COLUMNS, 0);
            faultsAre(x, "B3", NONE, "C3", 0);
            x.remove(0, ROWS, 0);
            faultsAre(x, "B2", NONE, "B3", 1);
            removeAll(x, 0, ROWS);
            faultsAre(x, "A1", 1, "9", NONE);
            removeAll(x, 0, COLUMNS);
            faultsAre(x, "A1", 0, "9", NONE);
            due("at a replica that shows them", x.fault(1), NONE);
            text(x, "C3");
            due("at a replica that shows them", x.fault(1), NONE);
        });
        holds(FORMULAS, "The formula keeps the numbers of the lines, so that it means the same cells wherever they "
                + "are moved.", () -> {
            SharedSheet x = new SharedSheet();
            x.setNumber(0, 0, 0, 5);
            formula(x, 0, 1, 1, "A1");
            x.move(0, ROWS, 0, 2);
            x.move(0, COLUMNS, 0, 2);
            valueIs(x, 0, 0, 5);
            writtenIs(x, 0, 0, 0, "C3");
            x.make(0, ROWS, 0);
            x.make(0, COLUMNS, 0);
            writtenIs(x, 0, 1, 1, "D4");
            valueIs(x, 1, 1, 5);
        });
    }

    private static void faultsAndWritten() {
        holds(FORMULAS, "The fault of the text is the index of the first character that is not allowed at its "
                + "place (also a fifth digit); it is the length of the text if the text ends too early.", () -> {
            SharedSheet x = new SharedSheet();
            faultsAre(x, "", 0, "?", 0, "1?", 1, "1+?", 2, "??", 0, "12345", 4, "123456", 4, "1234+", 5, "A", 1, "S", 1,
                    "S(A1:C3", 7, "1+1+1+1+1+1+1+1+1+1+1+1+", 24, "1+1+1+1+1+1+1+1+1+1+1+1A", 23,
                    "S(A1:C3)+S(A1:C3)*S(A1:C", 24, "1111+1111+1111+1111+1111", NONE, "1111+1111+1111+1111+111?", 23);
        });
        holds(FORMULAS, "When a formula is written as a text at a replica, it has the positions that the replica "
                + "shows at that time (and numbers without zeros in front); for a cell that is not shown, or whose "
                + "row has a position above 8, there is \"#\" in place of column and row.", () -> {
            SharedSheet x = new SharedSheet();
            formula(x, 0, 0, 0, "0000+0010-0900*08*9000");
            writtenIs(x, 0, 0, 0, "0+10-900*8*9000");
            formula(x, 0, 0, 0, "S(B1:C3)*C1-B3");
            x.remove(0, COLUMNS, 2);
            writtenIs(x, 0, 0, 0, "S(B1:#)*#-B3");
            x.remove(0, ROWS, 2);
            writtenIs(x, 0, 0, 0, "S(B1:#)*#-#");
            x.remove(0, COLUMNS, 1);
            writtenIs(x, 0, 0, 0, "S(#:#)*#-#");
            SharedSheet y = widest();
            formula(y, 0, 0, 0, "L9+S(A2:B9)");
            writtenIs(y, 0, 0, 0, "L9+S(A2:B9)");
            y.move(0, ROWS, 8, 9);
            writtenIs(y, 0, 0, 0, "#+S(A2:#)");
            y.move(0, ROWS, 9, 11);
            writtenIs(y, 0, 0, 0, "#+S(A2:#)");
            y.move(0, ROWS, 1, 11);
            writtenIs(y, 0, 0, 0, "#+S(#:#)");
            due("it refers to them all the same", y.cell(0, 0, 0, 4), 5);
            y.move(0, ROWS, 10, 8);
            writtenIs(y, 0, 0, 0, "L9+S(#:B9)");
        });
    }

    // ---- values: references and cycles

    private static void references() {
        holds(VALUES, "Values are those of a replica.", () -> {
            SharedSheet x = new SharedSheet();
            formula(x, 0, 0, 0, "B1");
            x.settle();
            x.setNumber(1, 0, 1, 7);
            due("value(0, 0, 0)", x.value(0, 0, 0), 0);
            due("value(1, 0, 0)", x.value(1, 0, 0), 7);
            x.remove(2, COLUMNS, 1);
            due("error(2, 0, 0)", x.error(2, 0, 0), 2);
            due("error(1, 0, 0)", x.error(1, 0, 0), 0);
        });
        holds(VALUES, "A formula refers to the cells that it names, and with S( : ) to all cells that are shown "
                + "and lie in the rectangle with the two cells as corners (by positions, the corners included), if "
                + "both corners are shown.", TermsCellsTest::rectangles);
        holds(VALUES, "A cell is on a cycle if it is shown and has a formula, and one can come from it to itself "
                + "by going, one or more times, from a shown cell with a formula to a shown cell to which it "
                + "refers.",
                TermsCellsTest::cycles);
    }

    private static void rectangles() {
        for (String corners : new String[] {"S(A1:B3)", "S(B3:A1)", "S(A3:B1)", "S(B1:A3)"}) {
            SharedSheet x = new SharedSheet();
            formula(x, 0, 0, 2, corners);
            due(corners + " refers to", x.cell(0, 0, 2, 4), 6);
            due("the upper corners inside", x.cell(0, 0, 0, 5) + x.cell(0, 0, 1, 5), 2);
            due("the lower corners inside", x.cell(0, 2, 0, 5) + x.cell(0, 2, 1, 5), 2);
            due("outside", x.cell(0, 1, 2, 5), 0);
            x.remove(0, ROWS, 1);
            due("without what is not shown", x.cell(0, 0, 2, 4), 4);
            x.make(0, ROWS, 1);
            due("with what has come between", x.cell(0, 0, 2, 4), 6);
            x.move(0, ROWS, 1, 2);
            due("without what has gone from between", x.cell(0, 0, 2, 4), 4);
        }
        SharedSheet y = widest();
        formula(y, 0, 0, 0, "S(A1:L9)");
        due("12 times 9", y.cell(0, 0, 0, 4), 108);
        y.move(0, ROWS, 8, 11);
        due("all cells that there are", y.cell(0, 0, 0, 4), 144);
        due("the last one too", y.cell(0, 11, 11, 5), 1);
        SharedSheet z = new SharedSheet();
        formula(z, 0, 0, 0, "S(B2:C3)+S(C2:C2)");
        due("one cell as both corners", z.cell(0, 0, 0, 4), 4);
        z.remove(0, ROWS, 2);
        due("one corner is not shown, and no rectangle is left", z.cell(0, 1, 1, 5), 1);
        due("named by the other sum", z.cell(0, 0, 0, 4), 2);
        z.remove(0, ROWS, 1);
        due("no corner is shown", z.cell(0, 0, 0, 4), 0);
    }

    private static void cycles() {
        SharedSheet x = new SharedSheet();
        formula(x, 0, 0, 0, "A1");
        due("one time", x.cell(0, 0, 0, 6), 1);
        formula(x, 0, 0, 1, "A1");
        due("it does not come back to itself", x.cell(0, 0, 1, 6), 0);
        formula(x, 0, 0, 0, "B1");
        due("two times", x.cycles(0), 2);
        x.setNumber(0, 0, 0, 1);
        due("broken by a number", x.cycles(0), 0);
        x.clearCell(0, 0, 0);
        due("broken by an empty cell", x.cycles(0), 0);
        formula(x, 0, 0, 0, "S(A1:A1)");
        due("by a sum", x.cell(0, 0, 0, 6), 1);
        x.remove(0, COLUMNS, 0);
        due("not shown", x.cycles(0), 0);
        SharedSheet y = new SharedSheet();
        formula(y, 0, 0, 0, "B2");
        formula(y, 0, 1, 1, "C3");
        formula(y, 0, 2, 2, "A1");
        due("three times", y.cycles(0), 3);
        y.remove(0, ROWS, 1);
        due("broken by a cell that is not shown", y.cycles(0), 0);
        longCycle();
    }

    private static void longCycle() {
        SharedSheet x = widest();
        for (int k = 0; k < 34; k++) {
            int next = (k + 1) % 34;
            formula(x, 0, k / 12, k % 12, "" + (char) ('A' + next % 12) + (1 + next / 12));
        }
        due("34 times", x.cycles(0), 34);
        due("the first", x.cell(0, 0, 0, 6), 1);
        due("the last", x.cell(0, 2, 9, 6), 1);
        due("not the one behind", x.cell(0, 2, 10, 6), 0);
        x.undo();
        due("33 of them are no cycle", x.cycles(0), 0);
    }

    // ---- values: calculation

    private static void calculation() {
        holds(VALUES, "A cell that is shown has a value or an error.", () -> {
            SharedSheet x = new SharedSheet();
            formula(x, 0, 0, 0, "9999*9999*99");
            formula(x, 0, 0, 1, "9999*9999*9");
            errorIs(x, 0, 0, 3);
            valueIs(x, 0, 1, 899820009);
            formula(x, 0, 0, 0, "9999*9999*9");
            valueIs(x, 0, 0, 899820009);
            formula(x, 0, 0, 0, "A1");
            errorIs(x, 0, 0, 1);
            x.setNumber(0, 0, 0, 6);
            valueIs(x, 0, 0, 6);
            formula(x, 0, 0, 0, "9999*9999*99");
            errorIs(x, 0, 0, 3);
            x.clearCell(0, 0, 0);
            valueIs(x, 0, 0, 0);
        });
        holds(VALUES, "An empty cell has the value 0, a number itself.", () -> {
            SharedSheet x = new SharedSheet();
            valueIs(x, 0, 0, 0);
            x.setNumber(0, 0, 0, -9999);
            valueIs(x, 0, 0, -9999);
            x.setNumber(0, 0, 0, 9999);
            valueIs(x, 0, 0, 9999);
            formula(x, 0, 0, 1, "C3*A1");
            valueIs(x, 0, 1, 0);
            x.clearCell(0, 0, 0);
            valueIs(x, 0, 0, 0);
        });
        holds(VALUES, "A cell on a cycle has the error 1.", () -> {
            SharedSheet x = new SharedSheet();
            formula(x, 0, 0, 0, "9999*9999*9999+C3+A1");
            errorIs(x, 0, 0, 1);
            x.remove(0, ROWS, 2);
            errorIs(x, 0, 0, 1);
        });
        holds(VALUES, "Another formula is calculated from left to right (products before sums, each term is "
                + "calculated and then added at once)", TermsCellsTest::leftToRight);
        holds(VALUES, "a cell in it that is not shown (also a corner) is the error 2", () -> {
            SharedSheet x = new SharedSheet();
            formula(x, 0, 0, 0, "0*C2");
            formula(x, 0, 0, 1, "S(A2:C2)");
            formula(x, 0, 1, 0, "S(C3:C2)");
            formula(x, 0, 1, 1, "S(B3:A3)*0");
            x.remove(0, COLUMNS, 2);
            errorIs(x, 0, 0, 2);
            errorIs(x, 0, 1, 2);
            errorIs(x, 1, 0, 2);
            valueIs(x, 1, 1, 0);
            x.remove(0, ROWS, 2);
            errorIs(x, 1, 1, 2);
        });
    }

    private static void leftToRight() {
        SharedSheet x = new SharedSheet();
        valuesAre(x, "2+3*4", 14, "2*3+4", 10, "9-2*3-1", 2, "9-3-3", 3, "2*3-4*5", -14, "1-1*0", 1);
        formula(x, 0, 0, 0, "1000*1000*1000");
        fails(x, "A1+1-A1", 3);
        gives(x, "A1-A1+1", 1);
        gives(x, "A1+1*0", 1000000000);
        fails(x, "A1*2*0", 3);
        gives(x, "0*A1*2", 0);
        formula(x, 0, 0, 1, "A1+1-C3");
        formula(x, 0, 1, 0, "A1+C3+1");
        formula(x, 0, 1, 1, "A1*2*C3");
        formula(x, 0, 1, 2, "A1*C3*2");
        x.remove(0, ROWS, 2);
        errorIs(x, 0, 1, 3);
        errorIs(x, 1, 0, 2);
        errorIs(x, 1, 1, 3);
        errorIs(x, 1, 2, 2);
    }

    /** Row 1 has the errors 1, 2 and 3, in this order. */
    private static void oneOfEachError(SharedSheet x) {
        x.make(0, ROWS, 3);
        x.make(0, COLUMNS, 3);
        formula(x, 0, 0, 0, "A1");
        formula(x, 0, 0, 1, "D4");
        formula(x, 0, 0, 2, "9999*9999*99");
        x.remove(0, ROWS, 3);
        x.remove(0, COLUMNS, 3);
    }

    private static void errors() {
        holds(VALUES, "one that has an error is this error", () -> {
            SharedSheet x = after(TermsCellsTest::oneOfEachError);
            for (int error = 1; error <= 3; error++) {
                errorIs(x, 0, error - 1, error);
                formula(x, 0, 1, 0, "5+0*" + (char) ('A' + error - 1) + "1-2");
                errorIs(x, 1, 0, error);
                formula(x, 0, 1, 1, "A2");
                errorIs(x, 1, 1, error);
            }
        });
        holds(VALUES, "S( : ) is the sum of the cells of the rectangle, added one after the other, row by row, or "
                + "the first error that is met by that", TermsCellsTest::rowByRow);
        holds(VALUES, "a product or a sum (also one within S) that is less than -1000000000 or greater than "
                + "1000000000 is the error 3", () -> {
            productsAtTheLimit();
            sumsAtTheLimit();
            sumsOfRectanglesAtTheLimit();
            wrapAround();
        });
        holds(VALUES, "The first error that is met is the error of the formula.", () -> {
            SharedSheet x = after(TermsCellsTest::oneOfEachError);
            String[] texts = {"A1+B1+C1", "A1*C1", "B1-A1", "B1*C1*A1", "C1-B1", "1*C1+A1", "9999*9999*99+A1",
                "A1+9999*9999*99", "S(B1:C1)+A1", "0*B1+S(A1:C1)"};
            int[] want = {1, 1, 2, 2, 3, 3, 3, 1, 2, 2};
            for (int k = 0; k < texts.length; k++) {
                formula(x, 0, 1, 0, texts[k]);
                errorIs(x, 1, 0, want[k]);
            }
            firstErrorAtTheLimit();
        });
    }

    /** Whatever is added to the greatest and to the least value, the error is met before the sum. */
    private static void firstErrorAtTheLimit() {
        SharedSheet x = after(TermsCellsTest::oneOfEachError);
        formula(x, 0, 2, 0, "1000*1000*1000");
        for (String text : new String[] {"A3+B1", "A3-B1", "0-A3+B1", "0-A3-B1", "A3*B1", "A3+S(B1:C1)", "A3-S(B1:C1)",
            "0-A3+S(B1:C1)", "0-A3-S(B1:C1)"}) {
            formula(x, 0, 1, 0, text);
            errorIs(x, 1, 0, 2);
        }
        SharedSheet y = new SharedSheet();
        formula(y, 0, 0, 0, "1000*1000*1000");
        formula(y, 0, 0, 1, "A1+C3");
        formula(y, 0, 0, 2, "A1-C3");
        formula(y, 0, 1, 0, "0-A1-S(A1:C3)");
        formula(y, 0, 1, 1, "0-A1+S(C3:A1)");
        y.remove(0, ROWS, 2);
        errorIs(y, 0, 1, 2);
        errorIs(y, 0, 2, 2);
        errorIs(y, 1, 0, 2);
        errorIs(y, 1, 1, 2);
    }

    private static void rowByRow() {
        SharedSheet x = after(TermsCellsTest::oneOfEachError);
        x.move(0, ROWS, 0, 1);
        formula(x, 0, 0, 2, "9999*9999*99");
        for (String corners : new String[] {"S(A1:C2)", "S(C2:A1)", "S(A2:C1)", "S(C1:A2)"}) {
            formula(x, 0, 2, 0, corners);
            errorIs(x, 2, 0, 3);
        }
        formula(x, 0, 2, 0, "S(B1:B2)");
        errorIs(x, 2, 0, 2);
        formula(x, 0, 2, 0, "S(A1:B2)");
        errorIs(x, 2, 0, 1);
        SharedSheet y = new SharedSheet();
        for (int k = 0; k < 9; k++) {
            y.setNumber(0, k / 3, k % 3, 1 << k);
        }
        y.make(0, COLUMNS, 3);
        for (String corners : new String[] {"S(A1:C3)", "S(C3:A1)", "S(A3:C1)", "S(C1:A3)"}) {
            formula(y, 0, 0, 3, corners);
            valueIs(y, 0, 3, 511);
        }
        formula(y, 0, 0, 3, "S(C2:B3)");
        valueIs(y, 0, 3, 16 + 32 + 128 + 256);
        formula(y, 0, 0, 3, "S(B2:B2)");
        valueIs(y, 0, 3, 16);
    }

    private static void productsAtTheLimit() {
        SharedSheet x = new SharedSheet();
        formula(x, 0, 0, 0, "999*1000+1");
        x.setNumber(0, 0, 1, -1001);
        x.setNumber(0, 0, 2, -1000);
        gives(x, "1000*1000*1000", 1000000000);
        fails(x, "A1*1001", 3);
        gives(x, "C1*1000*1000", -1000000000);
        fails(x, "A1*B1", 3);
        gives(x, "C1*C1*C1", -1000000000);
        fails(x, "1+A1*1001", 3);
        fails(x, "1-A1*1001", 3);
    }

    private static void sumsAtTheLimit() {
        SharedSheet x = new SharedSheet();
        formula(x, 0, 0, 0, "1000*1000*1000");
        x.setNumber(0, 0, 1, -1);
        gives(x, "A1+0", 1000000000);
        fails(x, "A1+1", 3);
        fails(x, "A1-B1", 3);
        gives(x, "A1-1+1", 1000000000);
        gives(x, "0-A1", -1000000000);
        fails(x, "0-A1-1", 3);
        fails(x, "0-A1+B1", 3);
        gives(x, "1-A1-1", -1000000000);
    }

    private static void sumsOfRectanglesAtTheLimit() {
        SharedSheet x = new SharedSheet();
        formula(x, 0, 0, 0, "1000*1000*1000");
        formula(x, 0, 1, 0, "0-A1");
        formula(x, 0, 2, 2, "S(A1:B1)");
        formula(x, 0, 2, 1, "S(A2:B2)");
        valueIs(x, 2, 2, 1000000000);
        valueIs(x, 2, 1, -1000000000);
        x.setNumber(0, 0, 1, 1);
        errorIs(x, 2, 2, 3);
        x.setNumber(0, 1, 1, -1);
        errorIs(x, 2, 1, 3);
        formula(x, 0, 2, 2, "S(A1:B1)-1");
        errorIs(x, 2, 2, 3);
        formula(x, 0, 2, 2, "S(A1:B2)");
        errorIs(x, 2, 2, 3);
        x.move(0, COLUMNS, 0, 1);
        errorIs(x, 2, 2, 3);
        x.setNumber(0, 0, 0, -1);
        valueIs(x, 2, 2, -2);
    }

    /** Numbers that would lie within the limits if they were kept in 32 bits. */
    private static void wrapAround() {
        SharedSheet x = new SharedSheet();
        formula(x, 0, 0, 0, "8192*8");
        valueIs(x, 0, 0, 65536);
        fails(x, "A1*A1", 3);
        formula(x, 0, 0, 0, "1000*1000*1000");
        fails(x, "A1*5", 3);
        fails(x, "A1*A1", 3);
        fails(x, "A1*A1*A1", 3);
        formula(x, 0, 0, 1, "A1");
        formula(x, 0, 0, 2, "A1");
        formula(x, 0, 1, 0, "A1");
        formula(x, 0, 1, 1, "A1");
        fails(x, "A1+B1+C1+A2", 3);
        fails(x, "S(A1:B2)", 3);
    }

    private static void order() {
        holds(VALUES, "The order of calculation has all shown cells with formulas that are not on a cycle and do "
                + "not refer, directly or by other formulas, to one on a cycle: again and again, of those that are "
                + "not in it yet and whose shown formulas to which they refer are all in it, the one whose row has "
                + "the lowest position is appended, of several the one whose column has the lowest position.", () -> {
            SharedSheet x = new SharedSheet();
            orderIs(x, 0);
            x.setNumber(0, 0, 0, 1);
            orderIs(x, 0);
            formula(x, 0, 2, 2, "1");
            formula(x, 0, 2, 0, "2");
            formula(x, 0, 0, 2, "C3");
            formula(x, 0, 0, 1, "C1");
            orderIs(x, 0, 200, 202, 2, 1);
            formula(x, 0, 1, 0, "A2");
            orderIs(x, 0, 200, 202, 2, 1);
            formula(x, 0, 2, 0, "A2");
            orderIs(x, 0, 202, 2, 1);
            formula(x, 0, 1, 1, "A3");
            orderIs(x, 0, 202, 2, 1);
            x.remove(0, ROWS, 1);
            orderIs(x, 0, 100, 102, 2, 1);
            x.remove(0, ROWS, 1);
            orderIs(x, 0, 2, 1);
            x.move(0, COLUMNS, 2, 0);
            orderIs(x, 0, 0, 2);
            SharedSheet y = new SharedSheet();
            for (int k = 0; k < 9; k++) {
                formula(y, 0, k / 3, k % 3, k == 0 ? "C3" : "1");
            }
            orderIs(y, 0, 1, 2, 100, 101, 102, 200, 201, 202, 0);
            y.move(0, ROWS, 2, 0);
            orderIs(y, 0, 0, 1, 2, 100, 101, 102, 200, 201, 202);
            y.move(0, COLUMNS, 0, 2);
            orderIs(y, 0, 0, 1, 2, 100, 101, 102, 200, 201, 202);
            y.move(0, ROWS, 0, 2);
            orderIs(y, 0, 0, 1, 100, 101, 102, 200, 201, 2, 202);
        });
    }

    public static void main(String[] args) {
        cells();
        texts();
        factors();
        faultsAndWritten();
        references();
        calculation();
        errors();
        order();
        finishSentences();
    }
}
