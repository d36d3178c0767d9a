/** For each promise of the document at least one test: ordinary inputs, the edges it names, and wrong inputs. */
public final class PromisesTest extends Checks {
    private static void newObject() {
        SharedSheet x = new SharedSheet();
        for (int r = 0; r < 3; r++) {
            linesAre(x, r, ROWS, 0, 1, 2);
            linesAre(x, r, COLUMNS, 0, 1, 2);
            due("clock", x.clock(r), 0);
            due("operation", x.operation(r, 0, 0), NONE);
            for (int row = 0; row < 3; row++) {
                for (int column = 0; column < 3; column++) {
                    due("kind", x.cell(r, row, column, 0), 0);
                    due("value", x.value(r, row, column), 0);
                }
            }
        }
        due("character(0)", x.character(0), NONE);
        due("clearText()", x.clearText(), 0);
        due("NONE", SharedSheet.NONE, -1);
        refused("undo()", STATE, x::undo);
    }

    private static void make() {
        SharedSheet x = new SharedSheet();
        due("make at 0", x.make(0, ROWS, 0), 3);
        due("place", x.place(0, ROWS, 3), 500);
        due("make at the end", x.make(0, ROWS, 4), 4);
        due("place", x.place(0, ROWS, 4), 4000);
        due("make between", x.make(0, ROWS, 2), 5);
        due("place", x.place(0, ROWS, 5), 1500);
        linesAre(x, 0, ROWS, 3, 0, 5, 1, 2, 4);
        linesAre(x, 0, COLUMNS, 0, 1, 2);
        refusedUnchanged(x, "a fourth row", STATE, () -> x.make(0, ROWS, 0));
        due("column", x.make(0, COLUMNS, 3), 3);
        due("row of replica 1", x.make(1, ROWS, 1), 6);
        due("row of replica 2", x.make(2, ROWS, 1), 9);
        refusedUnchanged(x, "replica -1", INDEX, () -> x.make(-1, ROWS, 0));
        refusedUnchanged(x, "replica 3", INDEX, () -> x.make(3, ROWS, 0));
        refusedUnchanged(x, "position -1", INDEX, () -> x.make(0, ROWS, -1));
        refusedUnchanged(x, "position 7 of 6", INDEX, () -> x.make(0, ROWS, 7));
        x.undo();
        due("row of replica 2 again", x.make(2, ROWS, 0), 9);
        makeWithoutRoom();
        SharedSheet y = new SharedSheet();
        fillLog(y, 1);
        refusedUnchanged(y, "make with a full log", STATE, () -> y.make(1, ROWS, 0));
        due("make elsewhere", y.make(0, ROWS, 0), 3);
    }

    private static void makeWithoutRoom() {
        SharedSheet x = new SharedSheet();
        x.make(0, ROWS, 1);
        x.make(1, ROWS, 1);
        x.settle();
        linesAre(x, 2, ROWS, 0, 3, 6, 1, 2);
        refusedUnchanged(x, "make between equal places", STATE, () -> x.make(2, ROWS, 2));
        due("make before equal places", x.make(2, ROWS, 1), 9);
        due("its place", x.place(2, ROWS, 9), 1250);
        SharedSheet y = new SharedSheet();
        for (int k = 0; k < 9; k++) {
            y.move(0, COLUMNS, 2, 0);
        }
        due("place", y.place(0, COLUMNS, 0), 1);
        refusedUnchanged(y, "make below place 1", STATE, () -> y.make(0, COLUMNS, 0));
    }

    private static void move() {
        SharedSheet x = new SharedSheet();
        due("move to the end", x.move(0, ROWS, 0, 2), 2);
        due("place", x.place(0, ROWS, 0), 4000);
        linesAre(x, 0, ROWS, 1, 2, 0);
        due("move to the front", x.move(0, ROWS, 2, 0), 0);
        due("place", x.place(0, ROWS, 0), 1000);
        due("move to where it is", x.move(0, ROWS, 1, 1), 1);
        due("place", x.place(0, ROWS, 1), 2000);
        due("move of a column", x.move(0, COLUMNS, 2, 1), 1);
        due("place", x.place(0, COLUMNS, 2), 1500);
        linesAre(x, 0, COLUMNS, 0, 2, 1);
        linesAre(x, 1, COLUMNS, 0, 1, 2);
        refusedUnchanged(x, "replica 3", INDEX, () -> x.move(3, ROWS, 0, 0));
        refusedUnchanged(x, "from -1", INDEX, () -> x.move(0, ROWS, -1, 0));
        refusedUnchanged(x, "from 3", INDEX, () -> x.move(0, ROWS, 3, 0));
        refusedUnchanged(x, "to -1", INDEX, () -> x.move(0, ROWS, 0, -1));
        refusedUnchanged(x, "to 3", INDEX, () -> x.move(0, ROWS, 0, 3));
        SharedSheet y = new SharedSheet();
        int places = 0;
        for (int place = 1000; place > 1; place /= 2) {
            y.move(0, ROWS, 2, 0);
            places++;
        }
        due("moves to the front with room", places, 9);
        refusedUnchanged(y, "move without room", STATE, () -> y.move(0, ROWS, 2, 0));
        due("the line itself is no obstacle", y.move(0, ROWS, 0, 0), 0);
        SharedSheet z = new SharedSheet();
        fillLog(z, 0);
        refusedUnchanged(z, "move with a full log", STATE, () -> z.move(0, ROWS, 0, 2));
        refusedUnchanged(z, "from 9 with a full log", INDEX, () -> z.move(0, ROWS, 9, 2));
        latestMoveWins();
    }

    private static void latestMoveWins() {
        SharedSheet x = new SharedSheet();
        x.move(0, ROWS, 0, 2);
        x.move(1, ROWS, 0, 1);
        x.settle();
        for (int r = 0; r < 3; r++) {
            due("place by equal clocks", x.place(r, ROWS, 0), 2500);
        }
        x.move(2, ROWS, 0, 2);
        x.setNumber(0, 0, 0, 1);
        x.move(0, ROWS, 0, 1);
        x.settle();
        linesAre(x, 1, ROWS, 0, 1, 2);
        due("the later clock wins", x.place(1, ROWS, 1), 2750);
        SharedSheet z = new SharedSheet();
        z.move(2, ROWS, 0, 2);
        z.move(1, ROWS, 0, 1);
        z.receive(0, 2, 1);
        z.receive(0, 1, 1);
        due("equal clocks, the greater replica first", z.place(0, ROWS, 0), 4000);
        z.receive(2, 1, 1);
        due("equal clocks, its own first", z.place(2, ROWS, 0), 4000);
        SharedSheet y = new SharedSheet();
        y.make(0, ROWS, 3);
        y.receive(1, 0, 1);
        y.move(1, ROWS, 3, 0);
        y.receive(2, 1, 1);
        due("a line that is not made yet has a place", y.place(2, ROWS, 3), 500);
        due("but is not shown", y.position(2, ROWS, 3), NONE);
        y.receive(2, 0, 1);
        due("an older make leaves the place", y.place(2, ROWS, 3), 500);
        linesAre(y, 2, ROWS, 3, 0, 1, 2);
    }

    private static void remove() {
        SharedSheet x = new SharedSheet();
        due("remove", x.remove(0, ROWS, 1), 2);
        linesAre(x, 0, ROWS, 0, 2);
        linesAre(x, 1, ROWS, 0, 1, 2);
        linesAre(x, 0, COLUMNS, 0, 1, 2);
        refusedUnchanged(x, "position 2", INDEX, () -> x.remove(0, ROWS, 2));
        refusedUnchanged(x, "position -1", INDEX, () -> x.remove(0, ROWS, -1));
        refusedUnchanged(x, "replica 4", INDEX, () -> x.remove(4, ROWS, 0));
        x.move(1, ROWS, 1, 0);
        x.settle();
        linesAre(x, 1, ROWS, 0, 2);
        due("removed for ever, with its newer place", x.place(2, ROWS, 1), 500);
        due("remove", x.remove(0, ROWS, 0), 1);
        due("remove", x.remove(0, ROWS, 0), 0);
        refusedUnchanged(x, "remove of none", INDEX, () -> x.remove(0, ROWS, 0));
        due("the places of those removed do not count", x.make(0, ROWS, 0), 3);
        due("place", x.place(0, ROWS, 3), 1000);
        SharedSheet y = new SharedSheet();
        fillLog(y, 2);
        refusedUnchanged(y, "remove with a full log", STATE, () -> y.remove(2, COLUMNS, 0));
        SharedSheet z = new SharedSheet();
        z.make(0, ROWS, 0);
        z.receive(1, 0, 1);
        z.remove(1, ROWS, 0);
        z.receive(2, 1, 1);
        z.receive(2, 0, 1);
        linesAre(z, 2, ROWS, 0, 1, 2);
    }

    private static void shown() {
        SharedSheet x = new SharedSheet();
        x.make(0, ROWS, 0);
        x.remove(0, COLUMNS, 0);
        due("rows", x.shown(0, ROWS), 4);
        due("columns", x.shown(0, COLUMNS), 2);
        due("rows of 1", x.shown(1, ROWS), 3);
        due("all", widest().shown(2, COLUMNS), 12);
        refused("replica 3", INDEX, () -> x.shown(3, ROWS));
        refused("replica -1", INDEX, () -> x.shown(-1, ROWS));
    }

    private static void line() {
        SharedSheet x = new SharedSheet();
        x.make(2, COLUMNS, 1);
        due("line", x.line(2, COLUMNS, 1), 9);
        due("line", x.line(2, COLUMNS, 3), 2);
        due("behind the last", x.line(2, COLUMNS, 4), NONE);
        due("before the first", x.line(2, COLUMNS, -1), NONE);
        due("far", x.line(2, COLUMNS, Integer.MAX_VALUE), NONE);
        due("far", x.line(2, COLUMNS, Integer.MIN_VALUE), NONE);
        refused("replica 3", INDEX, () -> x.line(3, ROWS, 0));
        SharedSheet y = new SharedSheet();
        y.make(2, ROWS, 1);
        y.make(0, ROWS, 1);
        y.settle();
        linesAre(y, 1, ROWS, 0, 3, 9, 1, 2);
    }

    private static void position() {
        SharedSheet x = new SharedSheet();
        x.make(1, ROWS, 0);
        x.remove(1, ROWS, 2);
        due("new", x.position(1, ROWS, 6), 0);
        due("old", x.position(1, ROWS, 0), 1);
        due("removed", x.position(1, ROWS, 1), NONE);
        due("never made", x.position(1, ROWS, 11), NONE);
        due("column", x.position(1, COLUMNS, 1), 1);
        refused("number 12", ARGUMENT, () -> x.position(0, ROWS, 12));
        refused("number -1", ARGUMENT, () -> x.position(0, ROWS, -1));
        refused("replica before number", INDEX, () -> x.position(3, ROWS, 12));
    }

    private static void place() {
        SharedSheet x = new SharedSheet();
        due("first", x.place(0, ROWS, 0), 1000);
        due("second", x.place(0, ROWS, 1), 2000);
        due("third", x.place(0, COLUMNS, 2), 3000);
        due("none", x.place(0, ROWS, 3), NONE);
        due("none", x.place(0, ROWS, 11), NONE);
        x.make(0, ROWS, 2);
        due("made", x.place(0, ROWS, 3), 2500);
        due("not made there", x.place(1, ROWS, 3), NONE);
        due("not made as a column", x.place(0, COLUMNS, 3), NONE);
        x.remove(0, ROWS, 2);
        due("removed", x.place(0, ROWS, 3), 2500);
        x.make(0, ROWS, 1);
        x.make(0, ROWS, 1);
        x.move(0, ROWS, 4, 1);
        x.move(0, ROWS, 4, 1);
        x.move(0, ROWS, 4, 1);
        due("rounded down", x.place(0, ROWS, 1), 1062);
        due("moved", x.place(0, ROWS, 4), 1031);
        refused("number 12", ARGUMENT, () -> x.place(0, ROWS, 12));
        refused("number -1", ARGUMENT, () -> x.place(0, ROWS, -1));
        refused("replica before number", INDEX, () -> x.place(-1, ROWS, 12));
    }

    private static void setNumber() {
        SharedSheet x = new SharedSheet();
        due("setNumber", x.setNumber(0, 2, 1, 9999), 1);
        due("setNumber", x.setNumber(0, 2, 2, -9999), 2);
        valueIs(x, 2, 1, 9999);
        valueIs(x, 2, 2, -9999);
        valueIs(x, 1, 2, 0);
        due("elsewhere", x.value(1, 2, 1), 0);
        due("first of 1", x.setNumber(1, 0, 0, 5), 1);
        x.receive(1, 0, 2);
        due("the clock goes on from what came", x.setNumber(1, 0, 0, 5), 3);
        refusedUnchanged(x, "10000", ARGUMENT, () -> x.setNumber(0, 0, 0, 10000));
        refusedUnchanged(x, "-10000", ARGUMENT, () -> x.setNumber(0, 0, 0, -10000));
        refusedUnchanged(x, "row before number", INDEX, () -> x.setNumber(0, 3, 0, 10000));
        refusedUnchanged(x, "row -1", INDEX, () -> x.setNumber(0, -1, 0, 1));
        refusedUnchanged(x, "column 3", INDEX, () -> x.setNumber(0, 0, 3, 1));
        refusedUnchanged(x, "column -1", INDEX, () -> x.setNumber(0, 0, -1, 1));
        refusedUnchanged(x, "replica 3", INDEX, () -> x.setNumber(3, 0, 0, 1));
        fillLog(x, 0);
        refusedUnchanged(x, "full log", STATE, () -> x.setNumber(0, 0, 0, 1));
        refusedUnchanged(x, "number before full log", ARGUMENT, () -> x.setNumber(0, 0, 0, 10000));
        latestWriterWins();
    }

    private static void latestWriterWins() {
        SharedSheet x = new SharedSheet();
        x.setNumber(2, 0, 0, 22);
        x.setNumber(1, 0, 0, 11);
        x.setNumber(1, 0, 1, 12);
        x.setNumber(0, 0, 1, 2);
        x.receive(0, 2, 1);
        x.receive(0, 1, 2);
        due("equal clocks: the greater replica", x.value(0, 0, 0), 22);
        due("greater clock", x.value(0, 0, 1), 12);
        x.receive(2, 1, 2);
        due("the other way round", x.value(2, 0, 0), 22);
        SharedSheet y = new SharedSheet();
        y.setNumber(0, 0, 0, 7);
        y.move(0, ROWS, 0, 2);
        due("a number goes with its line", y.value(0, 2, 0), 7);
        y.setNumber(1, 0, 0, 8);
        y.settle();
        due("and is overwritten wherever it is", y.value(0, 2, 0), 8);
    }

    private static void clearCell() {
        SharedSheet x = new SharedSheet();
        x.setNumber(0, 0, 0, 5);
        due("clearCell", x.clearCell(0, 0, 0), 2);
        due("kind", x.cell(0, 0, 0, 0), 0);
        due("clock", x.cell(0, 0, 0, 1), 2);
        valueIs(x, 0, 0, 0);
        refusedUnchanged(x, "row 3", INDEX, () -> x.clearCell(0, 3, 0));
        refusedUnchanged(x, "column -1", INDEX, () -> x.clearCell(0, 0, -1));
        refusedUnchanged(x, "replica -1", INDEX, () -> x.clearCell(-1, 0, 0));
        x.setNumber(1, 0, 0, 6);
        x.settle();
        due("a later clear beats an earlier number", x.cell(1, 0, 0, 0), 0);
        fillLog(x, 0);
        refusedUnchanged(x, "full log", STATE, () -> x.clearCell(0, 0, 0));
        refusedUnchanged(x, "row before full log", INDEX, () -> x.clearCell(0, 3, 0));
    }

    private static void setFormula() {
        SharedSheet x = new SharedSheet();
        x.setNumber(0, 0, 0, 5);
        text(x, "A1*A1-3");
        due("setFormula", x.setFormula(0, 0, 1), 2);
        due("the text stays", text(x).equals("A1*A1-3") ? 1 : 0, 1);
        due("again", x.setFormula(0, 0, 2), 3);
        valueIs(x, 0, 1, 22);
        due("kind", x.cell(0, 0, 1, 0), 2);
        x.move(0, COLUMNS, 0, 2);
        x.move(0, ROWS, 0, 2);
        valueIs(x, 2, 0, 22);
        writtenIs(x, 0, 2, 0, "C3*C3-3");
        text(x, "D1");
        refusedUnchanged(x, "a fault", ARGUMENT, () -> x.setFormula(0, 0, 0));
        refusedUnchanged(x, "row before fault", INDEX, () -> x.setFormula(0, 3, 0));
        refusedUnchanged(x, "column before fault", INDEX, () -> x.setFormula(0, 0, 3));
        refusedUnchanged(x, "replica before fault", INDEX, () -> x.setFormula(3, 0, 0));
        x.make(1, COLUMNS, 0);
        refusedUnchanged(x, "fault at 0", ARGUMENT, () -> x.setFormula(0, 0, 0));
        due("no fault at 1", x.setFormula(1, 0, 0), 2);
        fillLog(x, 0);
        refusedUnchanged(x, "fault before full log", ARGUMENT, () -> x.setFormula(0, 0, 0));
        text(x, "1");
        refusedUnchanged(x, "full log", STATE, () -> x.setFormula(0, 0, 0));
        text(x, "1+1+1+1+1+1+1+1+1+1+1+12");
        x.setFormula(1, 1, 1);
        due("24 characters", x.value(1, 1, 1), 23);
    }

    private static void cell() {
        SharedSheet x = new SharedSheet();
        for (int what = 0; what <= 6; what++) {
            due("never written, " + what, x.cell(0, 1, 1, what), what == 1 || what == 2 ? NONE : 0);
        }
        x.setNumber(1, 0, 0, -7);
        formula(x, 1, 0, 1, "A1+S(A1:B2)*A3+A1");
        due("kind of number", x.cell(1, 0, 0, 0), 1);
        due("number", x.cell(1, 0, 0, 3), -7);
        due("references of a number", x.cell(1, 0, 0, 4), 0);
        due("referrers of a number", x.cell(1, 0, 0, 5), 1);
        due("kind of formula", x.cell(1, 0, 1, 0), 2);
        due("clock", x.cell(1, 0, 1, 1), 2);
        due("replica", x.cell(1, 0, 1, 2), 1);
        due("number of formula", x.cell(1, 0, 1, 3), 0);
        due("references, each once", x.cell(1, 0, 1, 4), 5);
        due("referrers, itself too", x.cell(1, 0, 1, 5), 1);
        due("on a cycle", x.cell(1, 0, 1, 6), 1);
        formula(x, 1, 2, 2, "B1+B1");
        due("referrers, each once", x.cell(1, 0, 1, 5), 2);
        due("behind a cycle", x.cell(1, 2, 2, 6), 0);
        x.clearCell(1, 2, 2);
        due("emptied, kind", x.cell(1, 2, 2, 0), 0);
        due("emptied, clock", x.cell(1, 2, 2, 1), 4);
        x.remove(1, ROWS, 1);
        due("a corner is gone: no rectangle", x.cell(1, 0, 1, 4), 2);
        due("a corner is gone: no cycle", x.cell(1, 0, 1, 6), 0);
        x.remove(1, ROWS, 1);
        due("a cell is gone", x.cell(1, 0, 1, 4), 1);
        refused("what 7", ARGUMENT, () -> x.cell(0, 0, 0, 7));
        refused("what -1", ARGUMENT, () -> x.cell(0, 0, 0, -1));
        refused("row before what", INDEX, () -> x.cell(0, 3, 0, 7));
        refused("column", INDEX, () -> x.cell(0, 0, 3, 0));
        refused("replica", INDEX, () -> x.cell(3, 0, 0, 0));
        SharedSheet z = widest();
        formula(z, 0, 3, 0, "A1*L1");
        formula(z, 0, 2, 11, "A4");
        due("referrers in the widest sheet", z.cell(0, 0, 11, 5) + z.cell(0, 3, 0, 5), 2);
        z.clearCell(0, 2, 11);
        due("referrers after a formula less", z.cell(0, 0, 11, 5) + z.cell(0, 3, 0, 5), 1);
        SharedSheet y = new SharedSheet();
        formula(y, 0, 0, 0, "S(B2:C3)");
        y.remove(0, ROWS, 2);
        due("a shown corner counts though the other is gone", y.cell(0, 0, 0, 4), 1);
        due("referrers of the shown corner", y.cell(0, 1, 1, 5), 1);
        due("referrers of what was within the rectangle", y.cell(0, 1, 2, 5), 0);
        cornersThatAreNotShown();
    }

    private static void cornersThatAreNotShown() {
        SharedSheet x = new SharedSheet();
        formula(x, 0, 0, 0, "S(B2:C3)");
        formula(x, 0, 0, 1, "S(C3:B2)*S(C3:B2)+B2");
        x.setNumber(0, 1, 1, 4);
        x.remove(0, COLUMNS, 2);
        due("the second corner's column is gone", x.cell(0, 0, 0, 4), 1);
        due("the first corner's column is gone, each cell once", x.cell(0, 0, 1, 4), 1);
        due("both refer to the shown corner", x.cell(0, 1, 1, 5), 2);
        errorIs(x, 0, 0, 2);
        errorIs(x, 0, 1, 2);
        x.move(0, ROWS, 1, 2);
        due("the shown corner is moved", x.cell(0, 2, 1, 5), 2);
        due("and nothing is left where it was", x.cell(0, 1, 1, 5), 0);
        x.undo();
        x.undo();
        due("the column is back", x.cell(0, 0, 0, 4), 4);
        x.remove(0, COLUMNS, 2);
        x.remove(0, ROWS, 1);
        due("no corner is shown", x.cell(0, 0, 0, 4) + x.cell(0, 0, 1, 4), 0);
        SharedSheet y = new SharedSheet();
        formula(y, 0, 1, 1, "S(A1:A3)*3");
        y.remove(0, ROWS, 0);
        due("the first corner is gone", y.cell(0, 0, 1, 4), 1);
        due("referrers of the second corner", y.cell(0, 1, 0, 5), 1);
        due("referrers of what was between", y.cell(0, 0, 0, 5), 0);
    }

    private static void value() {
        SharedSheet x = new SharedSheet();
        x.setNumber(0, 0, 0, 9);
        x.setNumber(0, 1, 0, -4);
        x.setNumber(0, 2, 0, 100);
        formula(x, 0, 0, 1, "A1-A2*3-1*2*A1");
        valueIs(x, 0, 1, 9 + 12 - 18);
        formula(x, 0, 1, 1, "S(A3:A1)*2");
        valueIs(x, 1, 1, 210);
        formula(x, 0, 2, 1, "S(B2:A1)");
        valueIs(x, 2, 1, 9 + 3 - 4 + 210);
        formula(x, 0, 2, 2, "0012*B3+C1");
        valueIs(x, 2, 2, 12 * 218);
        x.move(0, ROWS, 0, 1);
        formula(x, 0, 0, 2, "S(A1:A2)");
        valueIs(x, 0, 2, 5);
        x.move(0, ROWS, 2, 1);
        valueIs(x, 0, 2, 105);
        due("elsewhere", x.value(1, 0, 0), 0);
        refused("row", INDEX, () -> x.value(0, 3, 0));
        refused("row", INDEX, () -> x.value(0, -1, 0));
        refused("column", INDEX, () -> x.value(0, 0, 3));
        refused("replica", INDEX, () -> x.value(3, 0, 0));
        chainOfFormulas();
    }

    private static void chainOfFormulas() {
        SharedSheet x = widest();
        int k = 0;
        for (int row = 8; row >= 0 && k < 33; row--) {
            for (int column = 11; column >= 0 && k < 33; column--) {
                String next = column == 11 ? "A" + (row + 2) : "" + (char) ('A' + column + 1) + (row + 1);
                formula(x, 0, row, column, k == 0 ? "1" : row == 8 && column == 11 ? "1" : next + "+1");
                k++;
            }
        }
        due("a chain of 33", x.value(0, 6, 3), 33);
        due("the order begins with the number", x.order(0, 0), 811);
        due("the order ends with the last", x.order(0, 32), 603);
    }

    private static void error() {
        SharedSheet x = new SharedSheet();
        x.setNumber(0, 0, 0, 9999);
        formula(x, 0, 0, 1, "A1*A1*10");
        valueIs(x, 0, 1, 999800010);
        formula(x, 0, 0, 2, "B1+A1*10+A1*10");
        valueIs(x, 0, 2, 999999990);
        formula(x, 0, 1, 0, "C1+10");
        valueIs(x, 1, 0, 1000000000);
        formula(x, 0, 1, 0, "C1+11");
        errorIs(x, 1, 0, 3);
        formula(x, 0, 1, 0, "C1+11-11");
        errorIs(x, 1, 0, 3);
        formula(x, 0, 1, 0, "0-C1-10");
        valueIs(x, 1, 0, -1000000000);
        formula(x, 0, 1, 0, "0-C1-11");
        errorIs(x, 1, 0, 3);
        formula(x, 0, 1, 1, "A1*A1*A1*0");
        errorIs(x, 1, 1, 3);
        formula(x, 0, 1, 1, "5-5*C1");
        errorIs(x, 1, 1, 3);
        formula(x, 0, 1, 1, "S(A1:C1)*0");
        errorIs(x, 1, 1, 3);
        formula(x, 0, 2, 2, "7*B2");
        errorIs(x, 2, 2, 3);
        formula(x, 0, 2, 1, "C3+1");
        errorIs(x, 2, 1, 3);
        refused("row", INDEX, () -> x.error(0, 3, 0));
        refused("column", INDEX, () -> x.error(0, 0, -1));
        refused("replica", INDEX, () -> x.error(-1, 0, 0));
        firstErrorCounts();
        errorsAtTheLimit();
        errorsOfCycles();
    }

    private static void errorsAtTheLimit() {
        SharedSheet x = new SharedSheet();
        x.setNumber(0, 0, 0, 9999);
        formula(x, 0, 0, 1, "A1*A1*10+A1*10+A1*10+10");
        valueIs(x, 0, 1, 1000000000);
        formula(x, 0, 0, 2, "B1+A3");
        formula(x, 0, 1, 0, "B1+S(A1:A3)");
        formula(x, 0, 1, 1, "B1+C1");
        formula(x, 0, 1, 2, "B1+S(C1:C1)");
        x.remove(0, ROWS, 2);
        errorIs(x, 0, 2, 2);
        errorIs(x, 1, 0, 2);
        errorIs(x, 1, 1, 2);
        errorIs(x, 1, 2, 2);
    }

    private static void firstErrorCounts() {
        SharedSheet x = new SharedSheet();
        x.setNumber(0, 0, 0, 9999);
        formula(x, 0, 0, 1, "A1*A1*A1");
        formula(x, 0, 0, 2, "C3");
        formula(x, 0, 1, 0, "C3*B1");
        formula(x, 0, 1, 1, "B1*C3");
        formula(x, 0, 1, 2, "S(A1:C3)");
        formula(x, 0, 2, 0, "S(B1:C1)");
        formula(x, 0, 2, 1, "S(C1:B1)");
        x.remove(0, COLUMNS, 2);
        x.undo();
        due("before the removal", x.error(0, 0, 2), 0);
        x.move(0, COLUMNS, 2, 1);
        x.remove(0, ROWS, 2);
        errorIs(x, 0, 1, 2);
        errorIs(x, 0, 2, 3);
        errorIs(x, 1, 0, 2);
        errorIs(x, 1, 2, 3);
        errorIs(x, 1, 1, 2);
        formula(x, 0, 1, 0, "S(C1:B1)");
        errorIs(x, 1, 0, 2);
        formula(x, 0, 1, 0, "A1*A1*A1+B1");
        errorIs(x, 1, 0, 3);
        formula(x, 0, 1, 0, "0*B1+C1");
        errorIs(x, 1, 0, 2);
    }

    private static void errorsOfCycles() {
        SharedSheet x = new SharedSheet();
        formula(x, 0, 0, 0, "A1");
        errorIs(x, 0, 0, 1);
        formula(x, 0, 0, 1, "A1+1");
        errorIs(x, 0, 1, 1);
        formula(x, 0, 1, 0, "9999*9999*9999+B1");
        errorIs(x, 1, 0, 3);
        formula(x, 0, 1, 1, "9999*9999*9999+B2");
        errorIs(x, 1, 1, 1);
        formula(x, 0, 2, 0, "B1-A2");
        errorIs(x, 2, 0, 1);
        formula(x, 0, 2, 1, "A2-B1");
        errorIs(x, 2, 1, 3);
        x.setNumber(0, 0, 0, 1);
        valueIs(x, 0, 1, 2);
        errorIs(x, 2, 0, 3);
    }

    private static void write() {
        SharedSheet x = new SharedSheet();
        formula(x, 0, 0, 0, "0042+B2*S(C3:A1)-0000*C1");
        text(x, "xyz");
        writtenIs(x, 0, 0, 0, "42+B2*S(C3:A1)-0*C1");
        due("behind the text", x.character(19), NONE);
        x.move(0, COLUMNS, 2, 0);
        writtenIs(x, 0, 0, 1, "42+C2*S(A3:B1)-0*A1");
        x.remove(0, ROWS, 2);
        writtenIs(x, 0, 0, 1, "42+C2*S(#:B1)-0*A1");
        x.remove(0, COLUMNS, 0);
        writtenIs(x, 0, 0, 0, "42+B2*S(#:A1)-0*#");
        due("what is written is no formula", x.fault(0), 8);
        x.setNumber(0, 0, 1, 3);
        String before = text(x);
        refusedUnchanged(x, "a number", STATE, () -> x.write(0, 0, 1));
        refusedUnchanged(x, "an empty cell", STATE, () -> x.write(0, 1, 0));
        refusedUnchanged(x, "row", INDEX, () -> x.write(0, 2, 0));
        refusedUnchanged(x, "column", INDEX, () -> x.write(0, 0, 2));
        refusedUnchanged(x, "replica", INDEX, () -> x.write(3, 0, 0));
        due("the text after refusals", text(x).equals(before) ? 1 : 0, 1);
        formula(x, 0, 1, 1, "9999+1000*100-10+1*09+0");
        writtenIs(x, 0, 1, 1, "9999+1000*100-10+1*9+0");
        rowsWithoutDigit();
    }

    private static void rowsWithoutDigit() {
        SharedSheet x = new SharedSheet();
        formula(x, 0, 0, 0, "A3+C1");
        for (int k = 0; k < 9; k++) {
            x.make(k / 3, ROWS, 2);
            x.settle();
        }
        due("position of the third row", x.position(0, ROWS, 2), 11);
        writtenIs(x, 0, 0, 0, "#+C1");
        due("it has a value all the same", x.error(0, 0, 0), 0);
        x.move(0, ROWS, 11, 8);
        writtenIs(x, 0, 0, 0, "A9+C1");
        x.move(0, ROWS, 8, 9);
        writtenIs(x, 0, 0, 0, "#+C1");
        for (int k = 0; k < 9; k++) {
            x.make(k / 3, COLUMNS, 0);
            x.settle();
        }
        writtenIs(x, 0, 0, 9, "#+L1");
    }

    private static void cycles() {
        SharedSheet x = new SharedSheet();
        due("none", x.cycles(0), 0);
        formula(x, 0, 0, 0, "B1");
        formula(x, 0, 0, 1, "C1");
        due("a chain", x.cycles(0), 0);
        formula(x, 0, 0, 2, "A1");
        due("a ring", x.cycles(0), 3);
        formula(x, 0, 1, 0, "A1+A3");
        formula(x, 0, 2, 0, "A3");
        due("what lies between two cycles is on none", x.cycles(0), 4);
        due("elsewhere", x.cycles(1), 0);
        formula(x, 0, 1, 1, "S(C1:A3)");
        due("in its own rectangle", x.cycles(0), 5);
        x.remove(0, COLUMNS, 2);
        due("the ring is broken by a cell that is not shown", x.cycles(0), 1);
        refused("replica 3", INDEX, () -> x.cycles(3));
        refused("replica -1", INDEX, () -> x.cycles(-1));
        SharedSheet y = new SharedSheet();
        formula(y, 0, 0, 0, "B1");
        formula(y, 1, 0, 1, "A1");
        due("not yet", y.cycles(0) + y.cycles(1), 0);
        y.settle();
        due("by edits at the same time", y.cycles(2), 2);
        y.setNumber(2, 0, 0, 4);
        y.settle();
        due("ended", y.cycles(0), 0);
        due("with a value", y.value(1, 0, 1), 4);
        SharedSheet v = new SharedSheet();
        formula(v, 0, 0, 0, "B1");
        formula(v, 0, 0, 1, "B1+C2");
        formula(v, 0, 1, 2, "A3");
        formula(v, 0, 2, 0, "7");
        due("one leads into another", v.cycles(0), 1);
        due("the one behind is on none", v.cell(0, 1, 2, 6), 0);
        SharedSheet z = new SharedSheet();
        formula(z, 0, 0, 1, "S(A1:A3)");
        due("beside the rectangle", z.cycles(0), 0);
        z.make(0, COLUMNS, 0);
        z.move(0, COLUMNS, 2, 0);
        formula(z, 0, 0, 0, "S(C1:B2)");
        z.move(0, COLUMNS, 0, 1);
        due("a move brings it into the rectangle", z.cycles(0), 1);
        cyclesByOneCorner();
    }

    private static void cyclesByOneCorner() {
        SharedSheet x = new SharedSheet();
        formula(x, 0, 1, 0, "S(A2:C3)");
        formula(x, 0, 1, 1, "A2+1");
        x.remove(0, COLUMNS, 2);
        due("by the first corner to itself", x.cycles(0), 1);
        due("on a cycle", x.cell(0, 1, 0, 6), 1);
        errorIs(x, 1, 0, 1);
        errorIs(x, 1, 1, 1);
        SharedSheet y = new SharedSheet();
        formula(y, 0, 0, 0, "S(C3:B2)");
        formula(y, 0, 1, 1, "A1");
        formula(y, 0, 1, 2, "A1");
        y.remove(0, ROWS, 2);
        due("by the second corner, not by what was within", y.cycles(0), 2);
        due("the corner is on the cycle", y.cell(0, 1, 1, 6), 1);
        due("what was within is not", y.cell(0, 1, 2, 6), 0);
        errorIs(y, 0, 0, 1);
        y.remove(0, ROWS, 1);
        due("no corner, no cycle", y.cycles(0), 0);
        errorIs(y, 0, 0, 2);
    }

    private static void order() {
        SharedSheet x = new SharedSheet();
        orderIs(x, 0);
        formula(x, 0, 0, 0, "C3");
        formula(x, 0, 2, 2, "B2*2");
        formula(x, 0, 1, 1, "5");
        formula(x, 0, 1, 0, "7");
        orderIs(x, 0, 100, 101, 202, 0);
        due("before the first", x.order(0, -1), NONE);
        due("far", x.order(0, Integer.MAX_VALUE), NONE);
        orderIs(x, 1);
        formula(x, 0, 0, 1, "A1+C1");
        x.setNumber(0, 0, 2, 1);
        orderIs(x, 0, 100, 101, 202, 0, 1);
        x.move(0, ROWS, 2, 0);
        orderIs(x, 0, 200, 201, 2, 100, 101);
        formula(x, 0, 2, 1, "B3");
        orderIs(x, 0, 200);
        refused("replica 3", INDEX, () -> x.order(3, 0));
        SharedSheet y = new SharedSheet();
        formula(y, 0, 0, 1, "S(A1:A3)");
        formula(y, 0, 0, 2, "1");
        formula(y, 0, 2, 0, "1");
        orderIs(y, 0, 2, 200, 1);
        y.remove(0, ROWS, 2);
        orderIs(y, 0, 1, 2);
        orderByOneCorner();
        orderBesideCellsNotShown();
    }

    /** Promise 17 with "whose shown formulas to which they refer are all in it": a formula not shown leads nowhere. */
    private static void orderBesideCellsNotShown() {
        SharedSheet x = new SharedSheet();
        formula(x, 0, 0, 0, "B2");
        formula(x, 0, 1, 1, "C3");
        formula(x, 0, 2, 2, "C3");
        formula(x, 0, 0, 1, "A1");
        orderIs(x, 0);
        errorIs(x, 0, 1, 1);
        x.remove(0, ROWS, 1);
        orderIs(x, 0, 0, 1);
        errorIs(x, 0, 1, 2);
        due("the cycle stays", x.cycles(0), 1);
    }

    private static void orderByOneCorner() {
        SharedSheet x = new SharedSheet();
        formula(x, 0, 0, 0, "S(B2:C3)");
        formula(x, 0, 0, 1, "S(C3:B2)");
        formula(x, 0, 1, 1, "1");
        formula(x, 0, 1, 2, "2");
        x.remove(0, ROWS, 2);
        orderIs(x, 0, 101, 0, 1, 102);
        formula(x, 0, 1, 1, "B2");
        orderIs(x, 0, 102);
        errorIs(x, 0, 0, 2);
        x.move(0, ROWS, 1, 0);
        orderIs(x, 0, 2);
        x.remove(0, COLUMNS, 1);
        orderIs(x, 0, 1, 100);
    }

    private static void receive() {
        SharedSheet x = new SharedSheet();
        for (int k = 1; k <= 5; k++) {
            x.setNumber(1, 0, 0, k);
        }
        due("two of five", x.receive(0, 1, 2), 2);
        due("in order", x.value(0, 0, 0), 2);
        due("clock", x.clock(0), 2);
        due("the rest", x.receive(0, 1, 40), 3);
        due("no more", x.receive(0, 1, 1), 0);
        due("value", x.value(0, 0, 0), 5);
        due("nothing goes through others", x.receive(2, 0, 40), 0);
        x.setNumber(0, 1, 1, 1);
        due("clock 6 goes to 2", x.receive(2, 0, 1), 1);
        due("clock", x.clock(2), 6);
        x.receive(2, 1, 1);
        due("clocks do not fall", x.clock(2), 6);
        refusedUnchanged(x, "count 0", ARGUMENT, () -> x.receive(0, 1, 0));
        refusedUnchanged(x, "count 41", ARGUMENT, () -> x.receive(0, 1, 41));
        refusedUnchanged(x, "count -1", ARGUMENT, () -> x.receive(0, 1, -1));
        refusedUnchanged(x, "itself", ARGUMENT, () -> x.receive(1, 1, 1));
        refusedUnchanged(x, "replica before count", INDEX, () -> x.receive(3, 1, 0));
        refusedUnchanged(x, "from before count", INDEX, () -> x.receive(0, -1, 0));
        refusedUnchanged(x, "both out", INDEX, () -> x.receive(3, 3, 1));
    }

    private static void settle() {
        SharedSheet x = new SharedSheet();
        due("nothing", x.settle(), 0);
        due("but a record", x.undo(), 0);
        x.setNumber(0, 0, 0, 1);
        x.setNumber(1, 0, 1, 2);
        x.setNumber(1, 0, 2, 3);
        x.make(2, ROWS, 0);
        x.receive(0, 1, 1);
        due("settle", x.settle(), 7);
        for (int r = 0; r < 3; r++) {
            linesAre(x, r, ROWS, 9, 0, 1, 2);
            due("value", x.value(r, 1, 0), 1);
            due("value", x.value(r, 1, 1), 2);
            due("value", x.value(r, 1, 2), 3);
            due("clock", x.clock(r), 2);
        }
        due("again", x.settle(), 0);
        due("different", x.different(0, 1) + x.different(1, 2), 0);
        SharedSheet y = new SharedSheet();
        for (int r = 0; r < 3; r++) {
            fillLog(y, r);
        }
        due("full logs", y.settle(), 240);
    }

    private static void missing() {
        SharedSheet x = new SharedSheet();
        x.setNumber(1, 0, 0, 1);
        x.setNumber(1, 0, 0, 2);
        x.setNumber(1, 0, 0, 3);
        due("all", x.missing(0, 1), 3);
        due("none", x.missing(1, 0), 0);
        x.receive(0, 1, 2);
        due("one", x.missing(0, 1), 1);
        due("others", x.missing(2, 1), 3);
        x.undo();
        due("undone", x.missing(0, 1), 3);
        refused("itself", ARGUMENT, () -> x.missing(2, 2));
        refused("replica", INDEX, () -> x.missing(3, 0));
        refused("from", INDEX, () -> x.missing(0, -1));
        refused("both out", INDEX, () -> x.missing(5, 5));
    }

    private static void clock() {
        SharedSheet x = new SharedSheet();
        x.make(0, ROWS, 0);
        x.move(0, ROWS, 0, 1);
        x.remove(0, ROWS, 0);
        x.clearCell(0, 0, 0);
        due("four operations", x.clock(0), 4);
        due("others", x.clock(1), 0);
        x.receive(1, 0, 3);
        due("received", x.clock(1), 3);
        x.setNumber(1, 0, 0, 1);
        due("own", x.clock(1), 4);
        x.receive(0, 1, 1);
        due("an equal clock changes nothing", x.clock(0), 4);
        refused("replica 3", INDEX, () -> x.clock(3));
        refused("replica -1", INDEX, () -> x.clock(-1));
    }

    private static void operation() {
        SharedSheet x = new SharedSheet();
        x.make(1, COLUMNS, 1);
        x.move(1, ROWS, 0, 2);
        x.remove(1, COLUMNS, 0);
        x.setNumber(1, 0, 2, 5);
        int[][] want = {{1, 1, 1, 6, 1500}, {2, 2, 0, 0, 4000}, {3, 3, 1, 0, NONE}, {4, 4, NONE, 1, 2}};
        for (int k = 0; k < want.length; k++) {
            for (int what = 0; what < 5; what++) {
                due("operation(1, " + k + ", " + what + ")", x.operation(1, k, what), want[k][what]);
            }
        }
        x.settle();
        due("received ones are in no log", x.operation(0, 0, 0), NONE);
        due("behind the last", x.operation(1, 4, 0), NONE);
        due("before the first", x.operation(1, -1, 0), NONE);
        due("far", x.operation(1, Integer.MAX_VALUE, 0), NONE);
        x.undo();
        x.undo();
        due("undone", x.operation(1, 3, 0), NONE);
        refused("what 5", ARGUMENT, () -> x.operation(0, 99, 5));
        refused("what -1", ARGUMENT, () -> x.operation(0, 0, -1));
        refused("replica before what", INDEX, () -> x.operation(3, 0, 5));
    }

    private static void alike(SharedSheet x, boolean want) {
        due("areAlike(0, 1)", x.areAlike(0, 1) ? 1 : 0, want ? 1 : 0);
        due("areAlike(1, 0)", x.areAlike(1, 0) ? 1 : 0, want ? 1 : 0);
    }

    private static void areAlike() {
        SharedSheet x = new SharedSheet();
        alike(x, true);
        x.setNumber(0, 0, 0, 3);
        alike(x, false);
        x.setNumber(1, 0, 0, 3);
        alike(x, true);
        formula(x, 1, 0, 0, "3");
        alike(x, false);
        formula(x, 0, 0, 0, "1+2");
        alike(x, true);
        formula(x, 0, 0, 0, "A1");
        formula(x, 1, 0, 0, "9999*9999*9999");
        alike(x, false);
        x.clearCell(0, 0, 0);
        x.clearCell(1, 0, 0);
        alike(x, true);
        x.setNumber(0, 0, 0, 0);
        alike(x, false);
        x.clearCell(0, 0, 0);
        x.move(0, ROWS, 0, 0);
        alike(x, true);
        x.move(0, COLUMNS, 1, 2);
        alike(x, false);
        x.move(1, COLUMNS, 1, 2);
        alike(x, true);
        x.setNumber(0, 2, 1, 8);
        alike(x, false);
        x.remove(0, ROWS, 2);
        alike(x, false);
        x.remove(1, ROWS, 2);
        alike(x, true);
        x.setNumber(0, 1, 2, 6);
        alike(x, false);
        x.setNumber(1, 1, 2, 6);
        alike(x, true);
        x.make(0, COLUMNS, 0);
        alike(x, false);
        x.remove(0, COLUMNS, 1);
        alike(x, false);
        due("itself", x.areAlike(0, 0) ? 1 : 0, 1);
        SharedSheet y = widest();
        formula(y, 0, 8, 11, "A1");
        y.settle();
        alike(y, true);
        y.setNumber(0, 11, 11, 1);
        alike(y, false);
        y.remove(0, COLUMNS, 11);
        y.remove(1, COLUMNS, 11);
        alike(y, true);
        refused("one", INDEX, () -> x.areAlike(3, 0) ? 1 : 0);
        refused("other", INDEX, () -> x.areAlike(0, -1) ? 1 : 0);
        refused("same and out", INDEX, () -> x.areAlike(3, 3) ? 1 : 0);
    }

    private static void different() {
        SharedSheet x = new SharedSheet();
        due("new", x.different(0, 1), 0);
        x.setNumber(0, 0, 0, 3);
        x.setNumber(1, 0, 0, 3);
        due("another replica in the stamp", x.different(0, 1), 1);
        x.clearCell(0, 1, 1);
        due("an emptied cell has a stamp", x.different(1, 0), 2);
        x.remove(0, ROWS, 1);
        due("also if it is not shown", x.different(0, 1), 2);
        due("itself", x.different(0, 0), 0);
        x.settle();
        due("settled", x.different(0, 1), 0);
        x.setNumber(2, 0, 0, 1);
        x.setNumber(2, 0, 0, 3);
        due("another clock in the stamp", x.different(0, 2), 1);
        refused("one", INDEX, () -> x.different(3, 0));
        refused("other", INDEX, () -> x.different(0, -1));
    }

    private static void type() {
        SharedSheet x = new SharedSheet();
        due("type", x.type(32), 1);
        due("type", x.type(126), 2);
        for (int k = 3; k <= 24; k++) {
            due("type", x.type(64 + k), k);
        }
        refusedUnchanged(x, "a 25th", STATE, () -> x.type(65));
        refusedUnchanged(x, "31 before the length", ARGUMENT, () -> x.type(31));
        due("the last", x.character(23), 88);
        x.clearText();
        refusedUnchanged(x, "31", ARGUMENT, () -> x.type(31));
        refusedUnchanged(x, "127", ARGUMENT, () -> x.type(127));
        refusedUnchanged(x, "-1", ARGUMENT, () -> x.type(-1));
        refusedUnchanged(x, "65 in 16 bits more", ARGUMENT, () -> x.type(65536 + 65));
        refused("typing makes no record", STATE, x::undo);
    }

    private static void clearText() {
        SharedSheet x = new SharedSheet();
        due("empty", x.clearText(), 0);
        x.type(65);
        x.type(66);
        due("two", x.clearText(), 2);
        due("character", x.character(0), NONE);
        due("type", x.type(67), 1);
        due("character", x.character(0), 67);
        due("character", x.character(1), NONE);
        refused("clearing makes no record", STATE, x::undo);
    }

    private static void fault() {
        SharedSheet x = new SharedSheet();
        for (String good : new String[] {"1", "0", "0000", "9999", "A1", "C3", "A1+B2-C3*2", "S(A1:C3)", "S(C3:A1)*S(B1:B1)",
            "1*2*3+4*5-6", "S(A1:B2)-S(A1:B2)*9999"}) {
            faultIs(x, good, NONE);
        }
        String[] bad = {"", "+1", "-1", "A", "A0", "A4", "D1", "L1", "M1", "a1", "1A", "A1B1", "A12", "12345", "1+", "1*",
            "1+2*", "1+12345", "S", "SA", "S(", "S()", "S(1", "S(A1", "S(A1)", "S(A1:", "S(A1:1", "S(A1:B2", "S(A1:B2:",
            "S(A1:B2)(", "S(D1:A1)", "S(A1:A4)", "S(S(A1:A1)", "(A1)", "1 ", " 1", "1 +1", "#", "A1/2", "1++1", "A:", "A1:B2",
            "1+1+1+1+1+1+1+1+1+1+1+1+", "1+1+1+1+1+1+1+1+1+1+1+1A", "S(A1:C3)+S(A1:C3)*S(A1:C"};
        int[] index = {0, 0, 0, 1, 1, 1, 0, 0, 0, 0, 1, 2, 2, 4, 2, 2,
            4, 6, 1, 1, 2, 2, 2, 4, 4, 5, 5, 7, 7,
            8, 2, 6, 2, 0, 1, 0, 1, 0, 2, 2, 1, 2,
            24, 23, 24};
        for (int k = 0; k < bad.length; k++) {
            faultIs(x, bad[k], index[k]);
        }
        text(x, "S(A1:D4)");
        x.make(1, COLUMNS, 0);
        x.make(2, COLUMNS, 0);
        x.make(2, ROWS, 0);
        due("at 0", x.fault(0), 5);
        due("at 1", x.fault(1), 6);
        due("at 2", x.fault(2), NONE);
        refused("replica 3", INDEX, () -> x.fault(3));
        refused("replica -1", INDEX, () -> x.fault(-1));
        faultsOfLines();
    }

    private static void faultsOfLines() {
        SharedSheet x = widest();
        faultIs(x, "L9", NONE);
        faultIs(x, "M9", 0);
        faultIs(x, "A:", 1);
        faultIs(x, "S1", 1);
        for (int k = 0; k < 12; k++) {
            x.remove(0, ROWS, 0);
        }
        faultIs(x, "A1", 1);
        for (int k = 0; k < 12; k++) {
            x.remove(0, COLUMNS, 0);
        }
        faultIs(x, "A1", 0);
        faultIs(x, "S(A1:A1)", 2);
        faultIs(x, "77", NONE);
    }

    private static void character() {
        SharedSheet x = new SharedSheet();
        text(x, "S(~ ");
        int[] want = {83, 40, 126, 32};
        for (int k = 0; k < want.length; k++) {
            due("character(" + k + ")", x.character(k), want[k]);
        }
        due("behind", x.character(4), NONE);
        due("before", x.character(-1), NONE);
        due("far", x.character(Integer.MAX_VALUE), NONE);
        due("far", x.character(Integer.MIN_VALUE), NONE);
    }

    private static void undoable(SharedSheet x, int k) {
        switch (k) {
            case 0:
                x.make(0, ROWS, 0);
                break;
            case 1:
                x.setNumber(1, 0, 0, 5);
                break;
            case 2:
                x.setFormula(0, 1, 1);
                break;
            case 3:
                x.receive(2, 0, 1);
                break;
            case 4:
                x.move(2, COLUMNS, 0, 2);
                break;
            case 5:
                x.clearCell(0, 0, 0);
                break;
            case 6:
                x.remove(0, COLUMNS, 1);
                break;
            default:
                x.settle();
        }
    }

    private static void undo() {
        SharedSheet x = new SharedSheet();
        refusedUnchanged(x, "no record", STATE, x::undo);
        long[] sums = new long[8];
        text(x, "A1+1");
        for (int k = 0; k < 8; k++) {
            sums[k] = withoutRecords(x, Math.min(k, 4));
            undoable(x, k);
        }
        for (int times = 0; times < 2; times++) {
            for (int k = 7; k >= 4; k--) {
                due("undo()", x.undo(), k - 4);
                due("state before call " + k, withoutRecords(x, k - 4), sums[k]);
            }
            refused("a fifth", STATE, x::undo);
            due("the text stays", text(x).equals("A1+1") ? 1 : 0, 1);
            for (int k = 4; k < 8; k++) {
                due("the same states again", withoutRecords(x, k - 4), sums[k]);
                undoable(x, k);
            }
        }
        undoOfEach();
        undoBringsBackWhatWasBeaten();
    }

    private static void undoOfEach() {
        for (int k = 0; k < 8; k++) {
            SharedSheet x = new SharedSheet();
            text(x, "B2");
            x.setNumber(0, 0, 0, 3);
            x.move(1, ROWS, 0, 1);
            long before = withoutRecords(x, 2);
            undoable(x, k);
            due("call " + k + " changes something", withoutRecords(x, 3) == before ? 1 : 0, 0);
            due("call " + k + " makes one record", x.undo(), 2);
            due("call " + k + " undone", withoutRecords(x, 2), before);
        }
        SharedSheet y = new SharedSheet();
        y.receive(0, 1, 1);
        y.settle();
        due("records also if nothing changes", y.undo(), 1);
        y.move(0, ROWS, 0, 0);
        refused("no room for the wrong", INDEX, () -> y.move(0, ROWS, 5, 0));
        y.shown(0, ROWS);
        y.checksum();
        due("neither wrong calls nor questions make records", y.undo(), 1);
    }

    private static void undoBringsBackWhatWasBeaten() {
        SharedSheet x = new SharedSheet();
        x.setNumber(2, 0, 0, 1);
        x.receive(0, 2, 1);
        x.setNumber(0, 0, 0, 2);
        due("beaten", x.value(0, 0, 0), 2);
        x.undo();
        due("back", x.value(0, 0, 0), 1);
        due("clock", x.clock(0), 1);
        due("replica of the stamp", x.cell(0, 0, 0, 2), 2);
        due("length of the log", x.operation(0, 0, 0), NONE);
        x.setNumber(0, 0, 0, 7);
        x.settle();
        due("only what is in the logs comes", x.value(2, 0, 0), 7);
        x.undo();
        x.undo();
        x.undo();
        x.undo();
        due("all undone", x.cell(2, 0, 0, 1), NONE);
        due("all undone", x.clock(0) + x.clock(1) + x.clock(2), 0);
    }

    private static long mixed(long h, long... numbers) {
        for (long v : numbers) {
            h = 31 * h + v;
        }
        return h;
    }

    private static void checksum() {
        SharedSheet x = new SharedSheet();
        long h = 18539;
        for (int r = 0; r < 3; r++) {
            h = mixed(h, 0, 0, 0, 0, 3, 0, 1000, 1, 2000, 2, 3000, 3, 0, 1000, 1, 2000, 2, 3000);
            for (int k = 0; k < 9; k++) {
                h = mixed(h, 0, -1, -1, 0, 0, 0);
            }
            h = mixed(h, 0);
        }
        due("new", x.checksum(), mixed(h, 0, 0));
        x.type(65);
        due("with a text", x.checksum(), mixed(h, 1, 0));
        x.settle();
        due("with a record", x.checksum(), mixed(h, 1, 1));
        checksumOfMuch();
    }

    private static void checksumOfMuch() {
        SharedSheet x = new SharedSheet();
        x.make(0, ROWS, 0);
        x.remove(0, ROWS, 3);
        x.remove(0, ROWS, 2);
        x.remove(0, COLUMNS, 0);
        x.setNumber(0, 0, 0, -8);
        formula(x, 0, 1, 0, "A1*2");
        formula(x, 0, 1, 1, "B2");
        formula(x, 0, 0, 1, "7");
        x.remove(1, ROWS, 0);
        x.remove(1, ROWS, 0);
        x.remove(1, ROWS, 0);
        x.receive(1, 0, 1);
        x.setNumber(2, 0, 0, 6);
        x.remove(2, ROWS, 2);
        x.remove(2, ROWS, 1);
        x.remove(2, COLUMNS, 1);
        x.remove(2, COLUMNS, 1);
        long h = mixed(18539, 8, 8, 3, 5, 2, 3, 500, 0, 1000, 2, 1, 2000, 2, 3000);
        h = mixed(h, 1, 5, 0, -8, -8, 0, 2, 8, 0, 0, 7, 0, 2, 6, 0, 0, -16, 0, 2, 7, 0, 0, 0, 1);
        h = mixed(h, 1, 1, 100);
        h = mixed(h, 3, 3, 7, 5, 1, 3, 500, 3, 0, 1000, 1, 2000, 2, 3000);
        h = mixed(h, 0, -1, -1, 0, 0, 0, 0, -1, -1, 0, 0, 0, 0, -1, -1, 0, 0, 0, 0);
        h = mixed(h, 5, 5, 8, 3, 1, 0, 1000, 1, 0, 1000, 1, 1, 2, 6, 6, 0, 0);
        due("much", x.checksum(), mixed(h, 1, 4));
    }

    public static void main(String[] args) {
        Runnable[] promises = {PromisesTest::newObject, PromisesTest::make, PromisesTest::move, PromisesTest::remove,
            PromisesTest::shown, PromisesTest::line, PromisesTest::position, PromisesTest::place,
            PromisesTest::setNumber, PromisesTest::clearCell, PromisesTest::setFormula, PromisesTest::cell,
            PromisesTest::value, PromisesTest::error, PromisesTest::write, PromisesTest::cycles,
            PromisesTest::order, PromisesTest::receive, PromisesTest::settle, PromisesTest::missing,
            PromisesTest::clock, PromisesTest::operation, PromisesTest::areAlike, PromisesTest::different,
            PromisesTest::type, PromisesTest::clearText, PromisesTest::fault, PromisesTest::character,
            PromisesTest::undo, PromisesTest::checksum};
        for (int k = 0; k < promises.length; k++) {
            about("promise " + (k + 1));
            promises[k].run();
        }
        finish(promises.length + " promises");
    }
}
