/** Sentences of "Terms", UNDO and EXCEPTIONS, and the one on the constants, that name a boundary case. */
public final class TermsUndoTest extends Checks {
    private static final String UNDO = "Terms, UNDO";
    private static final String EXCEPTIONS = "Terms, EXCEPTIONS";
    private static final int[] NEGATIVE = {-1, -2, -12, -100, Integer.MIN_VALUE + 1, Integer.MIN_VALUE};

    /** Something of each sort has happened: all records, a text, lines and cells that are not shown. */
    private static void busy(SharedSheet x) {
        x.make(0, ROWS, 1);
        x.make(1, ROWS, 1);
        x.setNumber(1, 0, 0, 9);
        x.settle();
        x.remove(0, COLUMNS, 1);
        x.move(2, ROWS, 0, 3);
        x.receive(1, 0, 1);
        formula(x, 0, 2, 0, "A1+S(A1:B2)*4");
        x.setNumber(0, 3, 1, -3);
        x.receive(2, 0, 2);
        x.clearCell(1, 0, 0);
        text(x, "A1");
    }

    /** The log of replica 0 is full, and it has made its three rows; the text has a fault. */
    private static void full(SharedSheet x) {
        x.make(0, ROWS, 0);
        x.make(0, ROWS, 0);
        x.make(0, ROWS, 0);
        fillLog(x, 0);
        text(x, "?");
    }

    // ---- undo

    private static void records() {
        holds(UNDO, "Every method that is marked \"undoable\" records the replicas with their logs, as they were "
                + "before the call, when it ends normally (also if nothing changes; the text stays).", () -> {
            makesRecord("make", x -> x.make(2, COLUMNS, 0));
            makesRecord("move", x -> x.move(2, COLUMNS, 0, 2));
            makesRecord("move to where it is", x -> x.move(2, COLUMNS, 0, 0));
            makesRecord("remove", x -> x.remove(1, ROWS, 0));
            makesRecord("setNumber", x -> x.setNumber(1, 1, 1, 1));
            makesRecord("clearCell", x -> x.clearCell(1, 1, 1));
            makesRecord("setFormula", x -> x.setFormula(1, 1, 1));
            makesRecord("receive", x -> x.receive(0, 1, 1));
            makesRecord("receive of nothing", x -> x.receive(0, 2, 1));
            makesRecord("settle", x -> x.settle());
            SharedSheet y = new SharedSheet();
            due("settle() of nothing", y.settle(), 0);
            due("records also if nothing changes", y.undo(), 0);
            othersMakeNone();
        });
        holds(UNDO, "At most 4 records are kept; when one more is made, the oldest is dropped.", () -> {
            for (int calls = 1; calls <= 6; calls++) {
                SharedSheet x = new SharedSheet();
                for (int k = 1; k <= calls; k++) {
                    x.setNumber(0, 0, 0, k);
                }
                for (int left = Math.min(calls, 4) - 1; left >= 0; left--) {
                    due("undo() after " + calls + " calls", x.undo(), left);
                }
                due("what was before the oldest record", x.clock(0), Math.max(0, calls - 4));
                refused("undo() of a dropped one", STATE, x::undo);
            }
        });
        holds(UNDO, "undo() restores the latest one and removes it.", TermsUndoTest::latestFirst);
    }

    private static void makesRecord(String what, Question call) {
        SharedSheet x = new SharedSheet();
        x.setNumber(0, 0, 0, 3);
        x.make(1, ROWS, 0);
        text(x, "A1");
        long before = withoutRecords(x, 2);
        int length = logLength(x, 1) + logLength(x, 2);
        call.of(x);
        dueTrue("the text behind " + what, text(x).equals("A1"));
        text(x, "B2");
        due("undo() of " + what, x.undo(), 2);
        due("all but the records, " + what, withoutRecords(x, 2), before);
        due("the logs, " + what, logLength(x, 1) + logLength(x, 2), length);
        dueTrue("the text stays, " + what, text(x).equals("B2"));
    }

    private static void othersMakeNone() {
        makesNoRecord("questions", x -> x.shown(0, ROWS) + x.line(0, ROWS, 0) + x.position(0, ROWS, 0)
                + x.place(0, ROWS, 0) + x.cell(0, 0, 0, 5) + x.value(0, 0, 0) + x.error(0, 0, 0) + x.cycles(0)
                + x.order(0, 0) + x.missing(0, 1) + x.clock(0) + x.operation(0, 0, 0) + x.different(0, 1) + x.fault(0)
                + x.character(0) + x.checksum() + (x.areAlike(0, 1) ? 1 : 0));
        makesNoRecord("write", x -> x.write(0, 1, 1));
        makesNoRecord("type", x -> x.type('1'));
        makesNoRecord("clearText", SharedSheet::clearText);
    }

    private static void makesNoRecord(String what, Question call) {
        SharedSheet x = new SharedSheet();
        formula(x, 0, 1, 1, "A1");
        call.of(x);
        due("undo() behind " + what, x.undo(), 0);
        due("operations", logLength(x, 0), 0);
    }

    private static void latestFirst() {
        SharedSheet x = new SharedSheet();
        x.setNumber(0, 0, 0, 1);
        x.setNumber(1, 0, 0, 2);
        x.settle();
        x.remove(2, ROWS, 0);
        due("undo() of remove", x.undo(), 3);
        due("the row is back", x.value(2, 0, 0), 2);
        due("undo() of settle", x.undo(), 2);
        due("at 0", x.value(0, 0, 0), 1);
        due("at 1", x.value(1, 0, 0), 2);
        due("at 2", x.cell(2, 0, 0, 1), NONE);
        due("clock of 2", x.clock(2), 0);
        due("missing(2, 0)", x.missing(2, 0), 1);
        due("a new call makes a record again", x.setNumber(2, 0, 0, 3), 1);
        due("undo() of the new call", x.undo(), 2);
        due("undo()", x.undo(), 1);
        due("undo()", x.undo(), 0);
        refused("undo() without a record", STATE, x::undo);
    }

    // ---- exceptions

    private static void nothingChanges() {
        holds(EXCEPTIONS, "A call that throws an exception changes nothing.", () -> {
            refusedBusy(INDEX, "make", x -> x.make(0, ROWS, 6));
            refusedBusy(INDEX, "move", x -> x.move(0, ROWS, 0, 5));
            refusedBusy(INDEX, "remove", x -> x.remove(0, ROWS, 5));
            refusedBusy(INDEX, "shown", x -> x.shown(3, ROWS));
            refusedBusy(INDEX, "line", x -> x.line(3, ROWS, 0));
            refusedBusy(ARGUMENT, "position", x -> x.position(0, ROWS, 12));
            refusedBusy(ARGUMENT, "place", x -> x.place(0, ROWS, 12));
            refusedBusy(INDEX, "setNumber", x -> x.setNumber(0, 0, 2, 5));
            refusedBusy(ARGUMENT, "setNumber", x -> x.setNumber(0, 0, 0, 10000));
            refusedBusy(INDEX, "clearCell", x -> x.clearCell(0, 5, 0));
            refusedBusy(INDEX, "setFormula", x -> x.setFormula(0, 5, 0));
            refusedBusy(ARGUMENT, "cell", x -> x.cell(0, 0, 0, 7));
            refusedBusy(INDEX, "value", x -> x.value(0, 5, 0));
            refusedBusy(INDEX, "error", x -> x.error(0, 5, 0));
            refusedBusy(INDEX, "write", x -> x.write(0, 5, 0));
            refusedBusy(STATE, "write", x -> x.write(0, 0, 0));
            refusedBusy(INDEX, "cycles", x -> x.cycles(3));
            refusedBusy(INDEX, "order", x -> x.order(3, 0));
            refusedBusy(INDEX, "receive", x -> x.receive(0, 3, 1));
            refusedBusy(ARGUMENT, "receive", x -> x.receive(1, 0, 41));
            refusedBusy(ARGUMENT, "missing", x -> x.missing(0, 0));
            refusedBusy(INDEX, "clock", x -> x.clock(3));
            refusedBusy(ARGUMENT, "operation", x -> x.operation(0, 0, 5));
            refusedBusy(INDEX, "areAlike", x -> x.areAlike(0, 3) ? 1 : 0);
            refusedBusy(INDEX, "different", x -> x.different(0, 3));
            refusedBusy(ARGUMENT, "type", x -> x.type(127));
            refusedBusy(INDEX, "fault", x -> x.fault(3));
            refusedFull("make", x -> x.make(0, COLUMNS, 0));
            refusedFull("move", x -> x.move(0, ROWS, 0, 1));
            refusedFull("remove", x -> x.remove(0, ROWS, 0));
            refusedFull("setNumber", x -> x.setNumber(0, 0, 0, 1));
            refusedFull("clearCell", x -> x.clearCell(0, 0, 0));
            refusedAfter(TermsUndoTest::full, ARGUMENT, "setFormula", x -> x.setFormula(0, 0, 0));
            refusedAfter(x -> text(x, "123456789012345678901234"), STATE, "type", x -> x.type('5'));
            refusedAfter(x -> text(x, "1"), STATE, "undo", SharedSheet::undo);
        });
    }

    private static void refusedBusy(Class<?> want, String what, Question call) {
        refusedAfter(TermsUndoTest::busy, want, what, call);
    }

    private static void refusedFull(String what, Question call) {
        refusedAfter(TermsUndoTest::full, STATE, what + " with a full log", call);
    }

    private static void listedFirst() {
        holds(EXCEPTIONS, "If several exceptions of a method apply, the one that is listed first is thrown.", () -> {
            SharedSheet x = after(TermsUndoTest::full);
            refused("make, replica", INDEX, () -> x.make(3, ROWS, -1));
            refused("make, position and a full log", INDEX, () -> x.make(0, COLUMNS, 4));
            refused("make, position and 3 lines", INDEX, () -> x.make(0, ROWS, 7));
            refused("move, from and a full log", INDEX, () -> x.move(0, ROWS, 6, 0));
            refused("move, to and a full log", INDEX, () -> x.move(0, ROWS, 0, 6));
            refused("remove, position and a full log", INDEX, () -> x.remove(0, ROWS, 6));
            refused("position, replica and number", INDEX, () -> x.position(3, ROWS, 12));
            refused("place, replica and number", INDEX, () -> x.place(-1, ROWS, -1));
            refused("setNumber, row, number and log", INDEX, () -> x.setNumber(0, 6, 0, 10000));
            refused("setNumber, column, number and log", INDEX, () -> x.setNumber(0, 0, 3, -10000));
            refused("setNumber, number and log", ARGUMENT, () -> x.setNumber(0, 0, 0, 10000));
            refused("clearCell, column and log", INDEX, () -> x.clearCell(0, 0, 3));
            refused("setFormula, row, fault and log", INDEX, () -> x.setFormula(0, 6, 0));
            refused("setFormula, fault and log", ARGUMENT, () -> x.setFormula(0, 0, 0));
            refused("cell, replica and what", INDEX, () -> x.cell(3, 0, 0, 7));
            refused("cell, column and what", INDEX, () -> x.cell(0, 0, 3, -1));
            refused("write, row and no formula", INDEX, () -> x.write(0, 6, 0));
            refused("receive, both replicas, the same and count", INDEX, () -> x.receive(3, 3, 0));
            refused("receive, from and count", INDEX, () -> x.receive(0, 3, 41));
            refused("missing, both replicas and the same", INDEX, () -> x.missing(-1, -1));
            refused("operation, replica and what", INDEX, () -> x.operation(3, 0, 5));
            text(x, "123456789012345678901234");
            refused("type, c and a full text", ARGUMENT, () -> x.type(127));
        });
        holds(EXCEPTIONS, "Positions and indices may be negative where NONE is returned if there is no such one.",
                () -> {
            SharedSheet x = after(TermsUndoTest::busy);
            for (int k : NEGATIVE) {
                due("line(0, rows, " + k + ")", x.line(0, ROWS, k), NONE);
                due("line(0, columns, " + k + ")", x.line(0, COLUMNS, k), NONE);
                due("order(0, " + k + ")", x.order(0, k), NONE);
                due("operation(0, " + k + ", 0)", x.operation(0, k, 0), NONE);
                due("character(" + k + ")", x.character(k), NONE);
            }
        });
        holds("Terms", "The constants: `NONE = -1`: Returned where there is no such thing.", () -> {
            due("NONE", SharedSheet.NONE, -1);
            SharedSheet x = new SharedSheet();
            due("no such position", x.line(0, ROWS, 3), -1);
            due("not shown", x.position(0, ROWS, 3), -1);
            due("no place", x.place(0, ROWS, 3), -1);
            due("no clock of a stamp", x.cell(0, 0, 0, 1), -1);
            due("no replica of a stamp", x.cell(0, 0, 0, 2), -1);
            due("no place in the order", x.order(0, 0), -1);
            due("no operation", x.operation(0, 0, 0), -1);
            due("no character", x.character(0), -1);
            x.type('1');
            due("no fault", x.fault(0), -1);
        });
    }

    public static void main(String[] args) {
        records();
        nothingChanges();
        listedFirst();
        finishSentences();
    }
}
