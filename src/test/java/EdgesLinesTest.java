/** Sentences of the promises 1 to 8 (a new object, lines) that name a boundary case. */
public final class EdgesLinesTest extends Checks {
    private static final int[] NO_NUMBERS = {Integer.MIN_VALUE, -2, -1, 12, 13, Integer.MAX_VALUE};

    private static void newObject() {
        holds("Promise 1", "Creates the replicas with three empty rows and columns each, without operations, and "
                + "an empty text.", () -> {
            SharedSheet x = new SharedSheet();
            for (int r = 0; r < 3; r++) {
                linesAre(x, r, ROWS, 0, 1, 2);
                linesAre(x, r, COLUMNS, 0, 1, 2);
                for (int k = 0; k < 9; k++) {
                    due("kind", x.cell(r, k / 3, k % 3, 0), 0);
                    stampIs(x, r, k / 3, k % 3, NONE, NONE);
                }
                due("clock(" + r + ")", x.clock(r), 0);
                due("operation(" + r + ", 0, 0)", x.operation(r, 0, 0), NONE);
                due("missing", x.missing(r, (r + 1) % 3) + x.missing(r, (r + 2) % 3), 0);
            }
            due("character(0)", x.character(0), NONE);
            refused("undo()", STATE, x::undo);
            due("clearText()", x.clearText(), 0);
        });
        holds("Promise 1", "Creates the replicas", () -> {
            SharedSheet used = new SharedSheet();
            used.remove(0, ROWS, 0);
            used.type('1');
            linesAre(new SharedSheet(), 0, ROWS, 0, 1, 2);
            due("the text of another object", new SharedSheet().clearText(), 0);
        });
    }

    /** Replica 0 shows three rows, replica 1 four and replica 2 five. */
    private static void threeFourFive(SharedSheet x) {
        x.make(1, ROWS, 3);
        x.make(2, ROWS, 3);
        x.make(2, ROWS, 4);
    }

    // ---- make

    private static void make() {
        holdsAtEachReplica("Promise 2", Checks::nothing, (x, r) -> x.make(r, COLUMNS, 1), 3, 6, 9);
        holds("Promise 2", "its position then, if the places of the lines around it are different: 0 to the number "
                + "of lines shown", () -> {
            for (int position = 0; position <= 3; position++) {
                SharedSheet x = new SharedSheet();
                int number = x.make(1, COLUMNS, position);
                due("position of what was made at " + position, x.position(1, COLUMNS, number), position);
            }
            SharedSheet none = after(x -> removeAll(x, 1, COLUMNS));
            due("0 of 0", none.position(1, COLUMNS, none.make(1, COLUMNS, 0)), 0);
        });
        holds("Promise 2", "Returns its number.", () -> {
            SharedSheet x = new SharedSheet();
            for (int k = 0; k < 9; k++) {
                due("row " + k, x.make(k / 3, ROWS, 0), 3 + k);
                due("column " + k, x.make(k / 3, COLUMNS, 3), 3 + k);
            }
        });
        holds("Promise 2", "Throws `IndexOutOfBoundsException` if there is no such replica, or position is out of "
                + "range", () -> {
            refusesOtherReplicas(Checks::nothing, (x, r) -> x.make(r, ROWS, 0));
            for (int position : new int[] {Integer.MIN_VALUE, -1, 4, Integer.MAX_VALUE}) {
                refusedAfter(Checks::nothing, INDEX, "row at " + position, x -> x.make(0, ROWS, position));
                refusedAfter(Checks::nothing, INDEX, "column at " + position, x -> x.make(2, COLUMNS, position));
            }
            refusedAfter(x -> x.remove(0, ROWS, 0), INDEX, "at 3 of 2", x -> x.make(0, ROWS, 3));
            answeredAfter(x -> x.remove(0, ROWS, 0), "at 2 of 2", x -> x.make(0, ROWS, 2));
            refusedAfter(x -> x.remove(0, ROWS, 0), INDEX, "at 4 of 3", x -> x.make(0, COLUMNS, 4));
            refusedAfter(x -> removeAll(x, 0, ROWS), INDEX, "at 1 of 0", x -> x.make(0, ROWS, 1));
        });
        holds("Promise 2", "Throws `IllegalStateException` if the replica has made 3 lines of this kind, there is "
                + "no room, or its log has 40 operations", EdgesLinesTest::makeInNoState);
    }

    private static void threeRows(SharedSheet x) {
        x.make(0, ROWS, 3);
        x.make(0, ROWS, 3);
        x.make(0, ROWS, 3);
    }

    private static void twoRowsAtOnePlace(SharedSheet x) {
        x.make(0, ROWS, 1);
        x.make(1, ROWS, 1);
        x.settle();
    }

    private static void makeInNoState() {
        refusedAfter(EdgesLinesTest::threeRows, STATE, "a fourth row", x -> x.make(0, ROWS, 0));
        answeredAfter(EdgesLinesTest::threeRows, "a first column", x -> x.make(0, COLUMNS, 0));
        answeredAfter(EdgesLinesTest::threeRows, "a first row of another", x -> x.make(1, ROWS, 0));
        answeredAfter(x -> {
            threeRows(x);
            x.undo();
        }, "a third row again", x -> x.make(0, ROWS, 0));
        refusedAfter(EdgesLinesTest::twoRowsAtOnePlace, STATE, "no room", x -> x.make(2, ROWS, 2));
        answeredAfter(EdgesLinesTest::twoRowsAtOnePlace, "room before them", x -> x.make(2, ROWS, 1));
        answeredAfter(EdgesLinesTest::twoRowsAtOnePlace, "room behind them", x -> x.make(2, ROWS, 3));
        refusedAfter(x -> fillLog(x, 0), STATE, "a full log", x -> x.make(0, ROWS, 0));
        answeredAfter(x -> fillLog(x, 0), "the log of another", x -> x.make(1, ROWS, 0));
        answeredAfter(x -> {
            fillLog(x, 0);
            x.undo();
        }, "as the 40th", x -> x.make(0, ROWS, 0));
    }

    // ---- move

    private static void move() {
        holdsAtEachReplica("Promise 3", EdgesLinesTest::threeFourFive, (x, r) -> x.move(r, ROWS, 0, r), 0, 1, 2);
        holds("Promise 3", "a position among the other lines, from 0 to their number", () -> {
            for (int to = 0; to <= 2; to++) {
                SharedSheet x = new SharedSheet();
                due("from 0 to " + to, x.move(0, ROWS, 0, to), to);
                due("position of row 0", x.position(0, ROWS, 0), to);
                due("from 2 to " + to, x.move(0, COLUMNS, 2, to), to);
                due("position of column 2", x.position(0, COLUMNS, 2), to);
            }
            SharedSheet one = new SharedSheet();
            one.remove(0, ROWS, 0);
            one.remove(0, ROWS, 0);
            due("among no others", one.move(0, ROWS, 0, 0), 0);
            due("its place", one.place(0, ROWS, 2), 1000);
            refusedUnchanged(one, "to 1 of 0", INDEX, () -> one.move(0, ROWS, 0, 1));
        });
        holds("Promise 3", "Returns its position then.", () -> {
            SharedSheet x = new SharedSheet();
            due("to the end", x.move(1, ROWS, 0, 2), 2);
            linesAre(x, 1, ROWS, 1, 2, 0);
            due("to the front", x.move(1, ROWS, 2, 0), 0);
            linesAre(x, 1, ROWS, 0, 1, 2);
            due("to where it is", x.move(1, ROWS, 1, 1), 1);
            linesAre(x, 1, ROWS, 0, 1, 2);
        });
        holds("Promise 3", "Throws `IndexOutOfBoundsException` if there is no such replica, from is no position, "
                + "or to is out of range", () -> {
            refusesOtherReplicas(Checks::nothing, (x, r) -> x.move(r, COLUMNS, 0, 1));
            for (int wrong : new int[] {Integer.MIN_VALUE, -1, 3, 4, Integer.MAX_VALUE}) {
                refusedAfter(Checks::nothing, INDEX, "from " + wrong, x -> x.move(0, ROWS, wrong, 0));
                refusedAfter(Checks::nothing, INDEX, "to " + wrong, x -> x.move(0, ROWS, 0, wrong));
            }
            refusedAfter(x -> x.remove(0, ROWS, 0), INDEX, "from 2 of 2", x -> x.move(0, ROWS, 2, 0));
            refusedAfter(x -> x.remove(0, ROWS, 0), INDEX, "to 2 of 1", x -> x.move(0, ROWS, 0, 2));
            answeredAfter(x -> x.remove(0, ROWS, 0), "columns are apart", x -> x.move(0, COLUMNS, 2, 2));
            refusedAfter(x -> removeAll(x, 0, ROWS), INDEX, "from 0 of 0", x -> x.move(0, ROWS, 0, 0));
        });
        holds("Promise 3", "Throws `IllegalStateException` if there is no room, or the log has 40 operations", () -> {
            refusedAfter(EdgesLinesTest::twoRowsAtOnePlace, STATE, "no room", x -> x.move(2, ROWS, 4, 2));
            refusedAfter(EdgesLinesTest::twoRowsAtOnePlace, STATE, "no room from before", x -> x.move(2, ROWS, 0, 1));
            answeredAfter(EdgesLinesTest::twoRowsAtOnePlace, "one of the two moved", x -> x.move(2, ROWS, 2, 2));
            answeredAfter(EdgesLinesTest::twoRowsAtOnePlace, "room behind them", x -> x.move(2, ROWS, 0, 2));
            refusedAfter(x -> fillLog(x, 0), STATE, "a full log", x -> x.move(0, ROWS, 0, 1));
            refusedAfter(x -> fillLog(x, 0), STATE, "to where it is with a full log", x -> x.move(0, ROWS, 0, 0));
            answeredAfter(x -> fillLog(x, 0), "the log of another", x -> x.move(1, ROWS, 0, 1));
        });
    }

    // ---- remove

    private static void remove() {
        holdsAtEachReplica("Promise 4", EdgesLinesTest::threeFourFive, (x, r) -> x.remove(r, ROWS, 0), 2, 3, 4);
        holds("Promise 4", "Returns how many lines of this kind are shown then.", () -> {
            SharedSheet x = new SharedSheet();
            due("rows", x.remove(2, ROWS, 2), 2);
            due("rows", x.remove(2, ROWS, 0), 1);
            due("columns", x.remove(2, COLUMNS, 1), 2);
            due("the last row", x.remove(2, ROWS, 0), 0);
            due("of twelve", widest().remove(0, COLUMNS, 11), 11);
        });
        holds("Promise 4", "Throws `IndexOutOfBoundsException` if there is no such replica or position", () -> {
            refusesOtherReplicas(Checks::nothing, (x, r) -> x.remove(r, ROWS, 2));
            for (int position : new int[] {Integer.MIN_VALUE, -1, 3, Integer.MAX_VALUE}) {
                refusedAfter(Checks::nothing, INDEX, "row " + position, x -> x.remove(1, ROWS, position));
                refusedAfter(Checks::nothing, INDEX, "column " + position, x -> x.remove(1, COLUMNS, position));
            }
            refusedAfter(x -> x.remove(1, ROWS, 0), INDEX, "2 of 2", x -> x.remove(1, ROWS, 2));
            refusedAfter(x -> removeAll(x, 1, ROWS), INDEX, "0 of 0", x -> x.remove(1, ROWS, 0));
            refused("12 of 12", INDEX, () -> widest().remove(0, ROWS, 12));
        });
        holds("Promise 4", "Throws `IllegalStateException` if the log has 40 operations", () -> {
            refusedAfter(x -> fillLog(x, 2), STATE, "a row", x -> x.remove(2, ROWS, 0));
            refusedAfter(x -> fillLog(x, 2), STATE, "a column", x -> x.remove(2, COLUMNS, 0));
            answeredAfter(x -> fillLog(x, 2), "the log of another", x -> x.remove(1, ROWS, 0));
            answeredAfter(x -> {
                fillLog(x, 2);
                x.undo();
            }, "as the 40th", x -> x.remove(2, ROWS, 0));
        });
    }

    // ---- questions about lines

    private static void shown() {
        holdsAtEachReplica("Promise 5", EdgesLinesTest::threeFourFive, (x, r) -> x.shown(r, ROWS), 3, 4, 5);
        holds("Promise 5", "Returns how many lines a replica shows.", () -> {
            SharedSheet x = new SharedSheet();
            due("at first", x.shown(0, ROWS), 3);
            removeAll(x, 0, ROWS);
            due("none", x.shown(0, ROWS), 0);
            due("columns", x.shown(0, COLUMNS), 3);
            due("another replica", x.shown(1, ROWS), 3);
            due("the most", widest().shown(1, ROWS) + widest().shown(2, COLUMNS), 24);
        });
        holds("Promise 5", "Throws `IndexOutOfBoundsException` if there is no such replica", () ->
            refusesOtherReplicas(Checks::nothing, (x, r) -> x.shown(r, COLUMNS)));
    }

    private static void line() {
        holdsAtEachReplica("Promise 6", EdgesLinesTest::threeFourFive, (x, r) -> x.line(r, ROWS, 3), NONE, 6, 9);
        holds("Promise 6", "Returns the number; NONE if there is no such position.", () -> {
            SharedSheet x = new SharedSheet();
            x.make(2, ROWS, 3);
            due("the first", x.line(2, ROWS, 0), 0);
            due("the last", x.line(2, ROWS, 3), 9);
            due("behind the last", x.line(2, ROWS, 4), NONE);
            due("before the first", x.line(2, ROWS, -1), NONE);
            due("behind the last column", x.line(2, COLUMNS, 3), NONE);
            due("far behind", x.line(2, ROWS, Integer.MAX_VALUE), NONE);
            due("far before", x.line(2, ROWS, Integer.MIN_VALUE), NONE);
            removeAll(x, 2, ROWS);
            due("without lines", x.line(2, ROWS, 0), NONE);
            SharedSheet y = widest();
            due("the last of twelve", y.line(0, COLUMNS, 11), 11);
            due("behind twelve", y.line(0, COLUMNS, 12), NONE);
        });
        holds("Promise 6", "Throws `IndexOutOfBoundsException` if there is no such replica", () ->
            refusesOtherReplicas(Checks::nothing, (x, r) -> x.line(r, ROWS, 5)));
    }

    private static void position() {
        holdsAtEachReplica("Promise 7", EdgesLinesTest::threeFourFive, (x, r) -> x.position(r, ROWS, 9), NONE, NONE, 3);
        holds("Promise 7", "Returns its position; NONE if it is not shown.", () -> {
            SharedSheet x = new SharedSheet();
            x.make(0, COLUMNS, 0);
            x.remove(0, COLUMNS, 3);
            due("the first", x.position(0, COLUMNS, 3), 0);
            due("the last", x.position(0, COLUMNS, 1), 2);
            due("removed", x.position(0, COLUMNS, 2), NONE);
            due("never made", x.position(0, COLUMNS, 11), NONE);
            due("not made there", x.position(1, COLUMNS, 3), NONE);
            due("not removed there", x.position(1, COLUMNS, 2), 2);
            due("the row with the number", x.position(0, ROWS, 3), NONE);
            due("the last of twelve", widest().position(0, ROWS, 11), 11);
        });
        holds("Promise 7", "Throws `IndexOutOfBoundsException` if there is no such replica", () ->
            refusesOtherReplicas(Checks::nothing, (x, r) -> x.position(r, ROWS, 0)));
        holds("Promise 7", "Throws `IllegalArgumentException` if number is not 0 to 11", () -> {
            for (int number : NO_NUMBERS) {
                refusedAfter(Checks::nothing, ARGUMENT, "row " + number, x -> x.position(0, ROWS, number));
                refusedAfter(Checks::nothing, ARGUMENT, "column " + number, x -> x.position(0, COLUMNS, number));
            }
            answeredAfter(Checks::nothing, "0", x -> x.position(0, ROWS, 0));
            answeredAfter(Checks::nothing, "11", x -> x.position(0, ROWS, 11));
        });
    }

    private static void place() {
        holdsAtEachReplica("Promise 8", EdgesLinesTest::threeFourFive, (x, r) -> x.place(r, ROWS, 6), NONE, 4000, NONE);
        holds("Promise 8", "Returns its place; NONE if it has none.", () -> {
            SharedSheet x = new SharedSheet();
            due("of the first", x.place(0, ROWS, 0), 1000);
            due("never made", x.place(0, ROWS, 3), NONE);
            due("never made", x.place(0, ROWS, 11), NONE);
            x.make(0, ROWS, 0);
            due("made", x.place(0, ROWS, 3), 500);
            due("not made there", x.place(1, ROWS, 3), NONE);
            due("the column with the number", x.place(0, COLUMNS, 3), NONE);
            x.receive(1, 0, 1);
            x.move(1, ROWS, 0, 3);
            x.receive(2, 1, 1);
            due("moved and not made yet", x.place(2, ROWS, 3), 4000);
            x.remove(1, ROWS, 3);
            due("removed, it keeps its place", x.place(1, ROWS, 3), 4000);
            x.undo();
            x.undo();
            x.undo();
            due("undone", x.place(1, ROWS, 3), 500);
            SharedSheet y = new SharedSheet();
            y.make(2, COLUMNS, 0);
            y.undo();
            due("made and undone", y.place(2, COLUMNS, 9), NONE);
        });
        holds("Promise 8", "Throws `IndexOutOfBoundsException` if there is no such replica", () ->
            refusesOtherReplicas(Checks::nothing, (x, r) -> x.place(r, ROWS, 0)));
        holds("Promise 8", "Throws `IllegalArgumentException` if number is not 0 to 11", () -> {
            for (int number : NO_NUMBERS) {
                refusedAfter(Checks::nothing, ARGUMENT, "row " + number, x -> x.place(0, ROWS, number));
                refusedAfter(Checks::nothing, ARGUMENT, "column " + number, x -> x.place(0, COLUMNS, number));
            }
            answeredAfter(Checks::nothing, "0", x -> x.place(0, ROWS, 0));
            answeredAfter(Checks::nothing, "11", x -> x.place(0, ROWS, 11));
        });
    }

    public static void main(String[] args) {
        newObject();
        make();
        move();
        remove();
        shown();
        line();
        position();
        place();
        finishSentences();
    }
}
