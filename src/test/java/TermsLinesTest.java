/** Sentences of "What it is" and of "Terms", REPLICAS AND OPERATIONS and LINES, that name a boundary case. */
public final class TermsLinesTest extends Checks {
    private static final String REPLICAS = "Terms, REPLICAS AND OPERATIONS";
    private static final String LINES = "Terms, LINES";

    private static void calls() {
        holds("What it is", "An object is used for at most 512 calls after it has been made", () -> {
            SharedSheet x = new SharedSheet();
            for (int k = 0; k < 255; k++) {
                due("call " + (2 * k + 1), x.setNumber(0, 0, 0, k), 1);
                due("call " + (2 * k + 2), x.undo(), 0);
            }
            due("call 511", x.setNumber(0, 0, 0, 7), 1);
            due("call 512", x.value(0, 0, 0), 7);
        });
    }

    // ---- replicas and operations

    private static void replicas() {
        holds(REPLICAS, "There are three replicas, 0 to 2.", () -> {
            for (int r = 0; r < 3; r++) {
                due("clock(" + r + ")", new SharedSheet().clock(r), 0);
            }
            refused("clock(-1)", INDEX, () -> new SharedSheet().clock(-1));
            refused("clock(3)", INDEX, () -> new SharedSheet().clock(3));
        });
        holds(REPLICAS, "Each one has a state of its own: a clock (0 at first), lines, cells, and, for each other "
                + "replica, how many of its operations it has received (0 at first).", () -> {
            SharedSheet x = new SharedSheet();
            for (int r = 0; r < 3; r++) {
                due("clock(" + r + ")", x.clock(r), 0);
            }
            x.setNumber(1, 0, 0, 5);
            x.remove(1, ROWS, 2);
            due("clock(0)", x.clock(0), 0);
            due("value(0, 0, 0)", x.value(0, 0, 0), 0);
            due("shown(0, rows)", x.shown(0, ROWS), 3);
            due("missing(0, 1)", x.missing(0, 1), 2);
            due("missing(2, 1)", x.missing(2, 1), 2);
            x.receive(0, 1, 1);
            due("missing(0, 1) then", x.missing(0, 1), 1);
            due("missing(2, 1) then", x.missing(2, 1), 2);
        });
        holds(REPLICAS, "Each replica has a log of the operations that were made at it, at most 40, in the order "
                + "in which they were made.", TermsLinesTest::logOfForty);
    }

    private static void logOfForty() {
        SharedSheet x = new SharedSheet();
        for (int k = 0; k < 40; k++) {
            due("setNumber " + k, x.setNumber(0, k % 3, 0, k), k + 1);
        }
        for (int k = 0; k < 40; k++) {
            due("clock of operation " + k, x.operation(0, k, 1), k + 1);
            due("row of operation " + k, x.operation(0, k, 3), k % 3);
        }
        due("operation 40", x.operation(0, 40, 0), NONE);
        refused("a 41st", STATE, () -> x.setNumber(0, 0, 0, 1));
        due("the other logs have room", x.setNumber(1, 0, 0, 1), 1);
        x.undo();
        x.undo();
        due("room again", x.setNumber(0, 2, 2, 1), 40);
        refused("and full again", STATE, () -> x.setNumber(0, 0, 0, 1));
        due("received ones are not in the log", x.settle(), 80);
        due("operation(1, 0, 0)", x.operation(1, 0, 0), NONE);
    }

    private static void clocks() {
        holds(REPLICAS, "When an operation is made at a replica, the clock of this replica increases by 1; the "
                + "operation gets a stamp, which consists of this clock and the number of the replica; it is "
                + "appended to the log of the replica and carried out at it.", () -> {
            SharedSheet x = new SharedSheet();
            due("setNumber", x.setNumber(2, 0, 0, 4), 1);
            due("clock(2)", x.clock(2), 1);
            stampIs(x, 2, 0, 0, 1, 2);
            operationIs(x, 2, 0, 4, 1, NONE, 0, 0);
            due("value(2, 0, 0)", x.value(2, 0, 0), 4);
            due("clock(0)", x.clock(0), 0);
            due("clock(1)", x.clock(1), 0);
        });
        holds(REPLICAS, "When a replica receives an operation of another one, its clock becomes the clock of the "
                + "stamp, if that is greater, and the operation is carried out at it.",
                TermsLinesTest::clocksThatAreReceived);
        holds(REPLICAS, "A replica receives the operations of another one in the order of the log of that one.",
                () -> {
            SharedSheet x = new SharedSheet();
            x.setNumber(0, 0, 0, 11);
            x.setNumber(0, 0, 1, 22);
            x.remove(0, ROWS, 0);
            x.receive(1, 0, 1);
            due("the first", x.value(1, 0, 0), 11);
            due("not the second", x.value(1, 0, 1), 0);
            x.receive(1, 0, 1);
            due("the second", x.value(1, 0, 1), 22);
            due("not the third", x.shown(1, ROWS), 3);
            x.receive(1, 0, 1);
            due("the third", x.shown(1, ROWS), 2);
        });
        holds(REPLICAS, "A stamp is later than another one if its clock is greater, or, with equal clocks, if its "
                + "replica is greater.", TermsLinesTest::laterStamps);
    }

    private static void clocksThatAreReceived() {
        SharedSheet x = new SharedSheet();
        x.setNumber(0, 0, 0, 1);
        x.setNumber(0, 0, 1, 2);
        x.setNumber(0, 0, 2, 3);
        x.setNumber(1, 1, 0, 4);
        x.setNumber(1, 1, 1, 5);
        x.receive(1, 0, 1);
        due("1 against 2", x.clock(1), 2);
        due("carried out all the same", x.value(1, 0, 0), 1);
        x.receive(1, 0, 1);
        due("2 against 2", x.clock(1), 2);
        due("carried out with the equal clock", x.value(1, 0, 1), 2);
        x.receive(1, 0, 1);
        due("3 against 2", x.clock(1), 3);
        x.receive(2, 0, 3);
        due("3 against 0", x.clock(2), 3);
        SharedSheet y = new SharedSheet();
        fillLog(y, 0);
        y.receive(1, 0, 40);
        fillLog(y, 1);
        y.receive(2, 1, 40);
        due("the clock is that of the last stamp", y.clock(2), 80);
        fillLog(y, 2);
        due("the greatest clock", y.clock(2), 120);
        y.settle();
        due("clock(0)", y.clock(0), 120);
        stampIs(y, 0, 0, 0, 120, 2);
    }

    private static void laterStamps() {
        SharedSheet x = new SharedSheet();
        x.setNumber(0, 0, 0, 10);
        x.setNumber(1, 0, 0, 11);
        x.setNumber(2, 0, 0, 12);
        x.receive(0, 1, 1);
        due("(1, 1) behind (1, 0)", x.value(0, 0, 0), 11);
        x.receive(0, 2, 1);
        due("(1, 2) behind (1, 1)", x.value(0, 0, 0), 12);
        x.receive(2, 0, 1);
        x.receive(2, 1, 1);
        due("(1, 0) and (1, 1) behind (1, 2)", x.value(2, 0, 0), 12);
        SharedSheet y = new SharedSheet();
        y.setNumber(0, 1, 1, 9);
        y.setNumber(0, 0, 0, 20);
        y.setNumber(2, 0, 0, 12);
        y.settle();
        due("(2, 0) before (1, 2)", y.value(0, 0, 0), 20);
        due("(2, 0) behind (1, 2)", y.value(2, 0, 0), 20);
        due("both at a third", y.value(1, 0, 0), 20);
    }

    // ---- lines

    private static void numbers() {
        holds(LINES, "Lines are rows and columns; everything in this section holds for both, apart from one "
                + "another.", () -> {
            SharedSheet x = new SharedSheet();
            x.make(0, ROWS, 0);
            x.make(0, ROWS, 0);
            x.make(0, ROWS, 0);
            due("the first column", x.make(0, COLUMNS, 3), 3);
            due("its place", x.place(0, COLUMNS, 3), 4000);
            due("the place of the row with this number", x.place(0, ROWS, 3), 500);
            x.remove(0, COLUMNS, 0);
            linesAre(x, 0, ROWS, 5, 4, 3, 0, 1, 2);
            linesAre(x, 0, COLUMNS, 1, 2, 3);
        });
        holds(LINES, "A line has a number, 0 to 11.", () -> {
            SharedSheet x = widest();
            linesAre(x, 0, ROWS, 0, 1, 2, 3, 4, 5, 6, 7, 8, 9, 10, 11);
            linesAre(x, 2, COLUMNS, 0, 1, 2, 3, 4, 5, 6, 7, 8, 9, 10, 11);
            due("position of 0", x.position(0, ROWS, 0), 0);
            due("position of 11", x.position(0, ROWS, 11), 11);
        });
        holds(LINES, "The lines 0 to 2 are there at first at all replicas.", () -> {
            SharedSheet x = new SharedSheet();
            for (int r = 0; r < 3; r++) {
                linesAre(x, r, ROWS, 0, 1, 2);
                linesAre(x, r, COLUMNS, 0, 1, 2);
                due("line behind the last", x.line(r, ROWS, 3), NONE);
                due("position of 3", x.position(r, COLUMNS, 3), NONE);
            }
        });
        holds(LINES, "When replica r makes its next line, this gets the number 3 + 3 * r + (how many of its kind "
                + "the replica has made before); it makes at most 3 rows and 3 columns.",
                TermsLinesTest::threeOfEachKind);
    }

    private static void threeOfEachKind() {
        for (int r = 0; r < 3; r++) {
            SharedSheet x = new SharedSheet();
            int replica = r;
            for (int k = 0; k < 3; k++) {
                due("row " + k + " of " + r, x.make(r, ROWS, 0), 3 + 3 * r + k);
                due("column " + k + " of " + r, x.make(r, COLUMNS, 0), 3 + 3 * r + k);
            }
            refused("a fourth row", STATE, () -> x.make(replica, ROWS, 0));
            refused("a fourth column", STATE, () -> x.make(replica, COLUMNS, 0));
            due("the next replica's first", x.make((r + 1) % 3, ROWS, 0), 3 + 3 * ((r + 1) % 3));
        }
        SharedSheet y = new SharedSheet();
        y.make(1, ROWS, 0);
        y.make(1, ROWS, 0);
        y.make(1, ROWS, 0);
        y.settle();
        due("what came from others does not count", y.make(0, ROWS, 0), 3);
        y.remove(0, ROWS, 0);
        due("what was removed counts", y.make(0, ROWS, 0), 4);
        y.undo();
        due("what was undone does not", y.make(0, ROWS, 0), 4);
        removeAll(y, 1, ROWS);
        refused("a fourth row, the others removed", STATE, () -> y.make(1, ROWS, 0));
    }

    private static void firstPlaces() {
        holds(LINES, "At first the lines 0 to 2 are made, with the places 1000, 2000 and 3000, and with a stamp "
                + "that is earlier than any other one (clock 0, replica 0).", () -> {
            SharedSheet x = new SharedSheet();
            for (int r = 0; r < 3; r++) {
                for (int number = 0; number < 3; number++) {
                    due("place of row " + number, x.place(r, ROWS, number), 1000 * (number + 1));
                    due("place of column " + number, x.place(r, COLUMNS, number), 1000 * (number + 1));
                }
            }
            x.move(0, ROWS, 0, 2);
            due("the earliest stamp of all moves it", x.place(0, ROWS, 0), 4000);
            x.receive(2, 0, 1);
            due("also elsewhere", x.place(2, ROWS, 0), 4000);
        });
        holds(LINES, "All others are not made, and without a place, as if they had a stamp with clock -1.", () -> {
            SharedSheet x = new SharedSheet();
            for (int number = 3; number < 12; number++) {
                due("place of row " + number, x.place(2, ROWS, number), NONE);
                due("place of column " + number, x.place(2, COLUMNS, number), NONE);
                due("position of row " + number, x.position(2, ROWS, number), NONE);
            }
            x.make(0, ROWS, 3);
            due("the earliest stamp of all gives a place", x.place(0, ROWS, 3), 4000);
            x.receive(1, 0, 1);
            due("also elsewhere", x.place(1, ROWS, 3), 4000);
        });
    }

    private static void shownLines() {
        holds(LINES, "A line is shown by a replica if it is made and not removed there.", () -> {
            SharedSheet x = new SharedSheet();
            x.make(0, ROWS, 0);
            due("made", x.position(0, ROWS, 3), 0);
            due("not made there", x.position(1, ROWS, 3), NONE);
            x.receive(1, 0, 1);
            x.remove(1, ROWS, 0);
            due("made and removed", x.position(1, ROWS, 3), NONE);
            due("not removed there", x.position(0, ROWS, 3), 0);
            x.receive(2, 1, 1);
            due("removed and not made", x.position(2, ROWS, 3), NONE);
            x.receive(2, 0, 1);
            due("made behind the removal", x.position(2, ROWS, 3), NONE);
        });
        holds(LINES, "The lines that a replica shows are in ascending order of their places, those with equal "
                + "places in ascending order of their numbers; their positions in this order are numbered from 0.",
                () -> {
            SharedSheet x = new SharedSheet();
            x.make(2, ROWS, 1);
            x.make(0, ROWS, 1);
            x.make(1, ROWS, 1);
            x.move(1, ROWS, 3, 2);
            x.settle();
            due("place of 3", x.place(1, ROWS, 3), 1500);
            due("place of 6", x.place(1, ROWS, 6), 1500);
            due("place of 9", x.place(1, ROWS, 9), 1500);
            due("place of 2", x.place(1, ROWS, 2), 1750);
            for (int r = 0; r < 3; r++) {
                linesAre(x, r, ROWS, 0, 3, 6, 9, 2, 1);
            }
            due("position of the first", x.position(0, ROWS, 0), 0);
        });
    }

    private static void operationsOfLines() {
        holds(LINES, "1 make: a line is made (in any case), and gets a place, if the stamp of the operation is "
                + "later than that of its place (with this stamp then).", () -> {
            SharedSheet x = new SharedSheet();
            x.make(0, COLUMNS, 3);
            x.receive(1, 0, 1);
            x.move(1, COLUMNS, 3, 0);
            x.receive(2, 1, 1);
            due("the move came first", x.place(2, COLUMNS, 3), 500);
            due("it is not made", x.shown(2, COLUMNS), 3);
            x.receive(2, 0, 1);
            due("the make is earlier and gives no place", x.place(2, COLUMNS, 3), 500);
            linesAre(x, 2, COLUMNS, 3, 0, 1, 2);
            x.move(0, COLUMNS, 3, 1);
            x.receive(1, 0, 1);
            due("(2, 0) behind (2, 1), the stamp of the move", x.place(1, COLUMNS, 3), 500);
        });
        holds(LINES, "2 move: a line gets a place, if the stamp of the operation is later than that of its place "
                + "(with this stamp then).", () -> {
            SharedSheet x = new SharedSheet();
            x.move(0, ROWS, 0, 2);
            x.move(1, ROWS, 0, 1);
            x.receive(0, 1, 1);
            due("equal clocks, from the greater replica", x.place(0, ROWS, 0), 2500);
            x.receive(1, 0, 1);
            due("equal clocks, from the lesser replica", x.place(1, ROWS, 0), 2500);
            x.move(2, ROWS, 1, 2);
            x.move(2, ROWS, 0, 2);
            x.receive(0, 2, 2);
            due("a greater clock", x.place(0, ROWS, 0), 5000);
            x.move(1, ROWS, 1, 0);
            x.receive(2, 1, 2);
            due("equal clocks (2, 1) and (2, 2)", x.place(2, ROWS, 0), 5000);
        });
        holds(LINES, "3 remove: a line is removed (for ever).", () -> {
            SharedSheet x = new SharedSheet();
            x.make(0, ROWS, 0);
            x.settle();
            x.remove(0, ROWS, 0);
            x.setNumber(1, 0, 0, 1);
            x.move(1, ROWS, 0, 3);
            x.settle();
            due("a later move does not bring it back", x.position(0, ROWS, 3), NONE);
            due("nor at the one that moved it", x.position(1, ROWS, 3), NONE);
            due("its place is the moved one", x.place(0, ROWS, 3), 4000);
        });
    }

    // ---- the place between

    private static void ends() {
        holds(LINES, "For a position p from 0 to n (n being the number of lines shown, without the line that is "
                + "moved, if one is moved) the place between is computed like this: the lower end is the place of "
                + "the line at position p - 1, or 0 if p is 0; the upper end is the place of the line at position "
                + "p, or the lower end plus 2000 if p is n.", TermsLinesTest::lowerAndUpperEnds);
        holds(LINES, "The place is (lower end + upper end) / 2, rounded down.", () -> {
            SharedSheet x = new SharedSheet();
            int[] places = {500, 250, 125, 62, 31, 15, 7, 3, 1};
            for (int k = 0; k < places.length; k++) {
                int number = x.line(0, COLUMNS, 2);
                x.move(0, COLUMNS, 2, 0);
                due("halved " + (k + 1) + " times", x.place(0, COLUMNS, number), places[k]);
            }
        });
        holds(LINES, "There is room if this is greater than the lower end.", () -> {
            roomBetween();
            roomAtTheFront();
            SharedSheet x = new SharedSheet();
            x.make(0, ROWS, 1);
            x.make(1, ROWS, 1);
            x.settle();
            refused("between two at 1500", STATE, () -> x.make(2, ROWS, 2));
            due("behind two at 1500", x.make(2, ROWS, 3), 9);
            due("its place", x.place(2, ROWS, 9), 1750);
        });
    }

    private static void lowerAndUpperEnds() {
        SharedSheet x = new SharedSheet();
        x.make(0, ROWS, 0);
        due("p is 0", x.place(0, ROWS, 3), 500);
        x.make(0, ROWS, 4);
        due("p is n", x.place(0, ROWS, 4), 4000);
        x.make(0, ROWS, 4);
        due("p is n - 1", x.place(0, ROWS, 5), 3500);
        due("p is 1 among the others", x.move(0, ROWS, 0, 1), 1);
        due("between 1000 and 2000", x.place(0, ROWS, 3), 1500);
        due("to the last among the others", x.move(0, ROWS, 0, 5), 5);
        due("behind 4000", x.place(0, ROWS, 0), 5000);
        due("the last one to the end again", x.move(0, ROWS, 5, 5), 5);
        due("again behind 4000, not behind itself", x.place(0, ROWS, 0), 5000);
        SharedSheet y = new SharedSheet();
        removeAll(y, 0, COLUMNS);
        due("n is 0", y.make(0, COLUMNS, 0), 3);
        due("from 0 to 2000", y.place(0, COLUMNS, 3), 1000);
        due("moved with n 0", y.move(0, COLUMNS, 0, 0), 0);
        due("from 0 to 2000 again", y.place(0, COLUMNS, 3), 1000);
    }

    /** Halves the room behind place 1000 until the rows are at 1000, 1001 and 1003. */
    private static void narrow(SharedSheet x) {
        for (int k = 0; k < 9; k++) {
            x.move(0, ROWS, 2, 1);
        }
    }

    private static void roomBetween() {
        SharedSheet x = after(TermsLinesTest::narrow);
        due("the first", x.place(0, ROWS, x.line(0, ROWS, 0)), 1000);
        due("the second", x.place(0, ROWS, x.line(0, ROWS, 1)), 1001);
        due("the third", x.place(0, ROWS, x.line(0, ROWS, 2)), 1003);
        refusedAfter(TermsLinesTest::narrow, STATE, "make between 1000 and 1001", y -> y.make(0, ROWS, 1));
        refusedAfter(TermsLinesTest::narrow, STATE, "move between 1000 and 1001", y -> y.move(0, ROWS, 2, 1));
        due("between 1001 and 1003", x.make(0, ROWS, 2), 3);
        due("its place", x.place(0, ROWS, 3), 1002);
        due("the second again to its place", x.move(0, ROWS, 1, 1), 1);
        due("between 1000 and 1002", x.place(0, ROWS, x.line(0, ROWS, 1)), 1001);
    }

    /** Moves the last row to the front until the first one is at place 2. */
    private static void toTheFront(SharedSheet x) {
        x.make(0, ROWS, 1);
        x.remove(0, ROWS, 0);
        for (int k = 0; k < 9; k++) {
            x.move(0, ROWS, 2, 0);
        }
    }

    private static void roomAtTheFront() {
        SharedSheet x = after(TermsLinesTest::toTheFront);
        due("the first", x.place(0, ROWS, x.line(0, ROWS, 0)), 2);
        due("between 0 and 2", x.make(0, ROWS, 0), 4);
        due("its place", x.place(0, ROWS, 4), 1);
        refused("make between 0 and 1", STATE, () -> x.make(0, ROWS, 0));
        refused("move between 0 and 1", STATE, () -> x.move(0, ROWS, 1, 0));
        due("the first one to the front again", x.move(0, ROWS, 0, 0), 0);
    }

    public static void main(String[] args) {
        calls();
        replicas();
        clocks();
        numbers();
        firstPlaces();
        shownLines();
        operationsOfLines();
        ends();
        finishSentences();
    }
}
