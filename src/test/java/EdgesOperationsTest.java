/** Sentences of the promises 18 to 24 (operations) that name a boundary case. */
public final class EdgesOperationsTest extends Checks {
    private static final String NO_PAIR = "Throws `IndexOutOfBoundsException` if one of the replicas does not exist";
    private static final String NEITHER = "Throws `IndexOutOfBoundsException` if one of them does not exist";
    private static final String NO_REPLICA = "Throws `IndexOutOfBoundsException` if there is no such replica";

    private interface QuestionOfTwo {
        long of(SharedSheet x, int one, int other);
    }

    /** Each of the two replicas must be there, whatever the other one is. */
    private static void needsTwoReplicas(String what, QuestionOfTwo call) {
        Steps steps = x -> x.setNumber(1, 0, 0, 1);
        for (int wrong : new int[] {Integer.MIN_VALUE, -1, 3, Integer.MAX_VALUE}) {
            for (int right = 0; right < 3; right++) {
                int replica = right;
                refusedAfter(steps, INDEX, what + " " + wrong + ", " + right, x -> call.of(x, wrong, replica));
                refusedAfter(steps, INDEX, what + " " + right + ", " + wrong, x -> call.of(x, replica, wrong));
            }
            refusedAfter(steps, INDEX, what + " " + wrong + " twice", x -> call.of(x, wrong, wrong));
        }
        for (int k = 0; k < 6; k++) {
            int one = k / 2;
            int other = (one + 1 + k % 2) % 3;
            answeredAfter(steps, what + " " + one + ", " + other, x -> call.of(x, one, other));
        }
    }

    private static void needsAnother(String what, QuestionAtReplica call) {
        for (int r = 0; r < 3; r++) {
            int replica = r;
            refusedAfter(x -> x.setNumber(replica, 0, 0, 1), ARGUMENT, what + " of itself", x -> call.of(x, replica));
        }
    }

    /** The logs have one, two and three operations. */
    private static void oneTwoThree(SharedSheet x) {
        for (int r = 0; r < 3; r++) {
            for (int k = 0; k <= r; k++) {
                x.clearCell(r, 0, k);
            }
        }
    }

    // ---- receive and settle

    private static void receive() {
        holdsAtEachReplica("Promise 18", EdgesOperationsTest::oneTwoThree,
                (x, r) -> x.receive(r, (r + 1) % 3, 40), 2, 3, 1);
        holds("Promise 18", "how many at most, 1 to 40", () -> {
            SharedSheet x = new SharedSheet();
            fillLog(x, 1);
            due("1 of 40", x.receive(0, 1, 1), 1);
            due("the first of them", x.value(0, 0, 0), 0);
            due("38 of 39", x.receive(0, 1, 38), 38);
            due("the 39th", x.value(0, 0, 0), 38);
            due("40 of 1", x.receive(0, 1, 40), 1);
            due("the 40th", x.value(0, 0, 0), 39);
            due("40 of 40", x.receive(2, 1, 40), 40);
        });
        holds("Promise 18", "Returns how many were received.", () -> {
            SharedSheet x = new SharedSheet();
            due("of nothing", x.receive(0, 1, 40), 0);
            x.setNumber(1, 0, 0, 1);
            x.setNumber(1, 0, 0, 2);
            due("2 of 2", x.receive(0, 1, 2), 2);
            due("of none left", x.receive(0, 1, 1), 0);
            due("nothing goes through a third", x.receive(2, 0, 40), 0);
            due("3 of 2", x.receive(2, 1, 3), 2);
        });
        holds("Promise 18", NO_PAIR, () -> needsTwoReplicas("receive", (x, one, other) -> x.receive(one, other, 1)));
        holds("Promise 18", "Throws `IllegalArgumentException` if they are the same, or count is out of range",
                () -> {
            needsAnother("receive", (x, r) -> x.receive(r, r, 1));
            for (int count : new int[] {Integer.MIN_VALUE, -1, 0, 41, Integer.MAX_VALUE}) {
                refusedAfter(x -> x.setNumber(1, 0, 0, 1), ARGUMENT, "count " + count, x -> x.receive(0, 1, count));
            }
            answeredAfter(x -> x.setNumber(1, 0, 0, 1), "count 1", x -> x.receive(0, 1, 1));
            answeredAfter(x -> x.setNumber(1, 0, 0, 1), "count 40", x -> x.receive(0, 1, 40));
        });
    }

    private static void settle() {
        holds("Promise 19", "Lets each replica receive all operations of the others that it has not received yet: "
                + "replica by replica in ascending order, and for each one from the others in ascending order.",
                () -> {
            SharedSheet x = new SharedSheet();
            x.setNumber(0, 0, 0, 1);
            x.make(1, ROWS, 3);
            x.remove(2, COLUMNS, 2);
            x.receive(1, 0, 1);
            x.settle();
            for (int r = 0; r < 3; r++) {
                due("value at " + r, x.value(r, 0, 0), 1);
                linesAre(x, r, ROWS, 0, 1, 2, 6);
                linesAre(x, r, COLUMNS, 0, 1);
                due("missing at " + r, x.missing(r, (r + 1) % 3) + x.missing(r, (r + 2) % 3), 0);
                due("clock at " + r, x.clock(r), 1);
            }
        });
        holds("Promise 19", "Returns how many were received.", () -> {
            SharedSheet x = new SharedSheet();
            due("nothing", x.settle(), 0);
            x.setNumber(2, 0, 0, 1);
            due("one, by two replicas", x.settle(), 2);
            due("no more", x.settle(), 0);
            x.setNumber(0, 0, 0, 1);
            x.receive(1, 0, 1);
            due("one, by the one that lacks it", x.settle(), 1);
            SharedSheet y = new SharedSheet();
            for (int r = 0; r < 3; r++) {
                fillLog(y, r);
            }
            due("the most", y.settle(), 240);
        });
    }

    // ---- questions

    private static void missing() {
        holdsAtEachReplica("Promise 20", EdgesOperationsTest::oneTwoThree,
                (x, r) -> x.missing(r, (r + 1) % 3), 2, 3, 1);
        holds("Promise 20", "Returns how many operations of another replica a replica has not received yet.", () -> {
            SharedSheet x = new SharedSheet();
            due("at first", x.missing(0, 2), 0);
            fillLog(x, 2);
            due("a full log", x.missing(0, 2), 40);
            due("the other way", x.missing(2, 0), 0);
            x.receive(0, 2, 39);
            due("all but one", x.missing(0, 2), 1);
            x.receive(0, 2, 1);
            due("none", x.missing(0, 2), 0);
            due("another one", x.missing(1, 2), 40);
            x.undo();
            due("undone", x.missing(0, 2), 1);
        });
        holds("Promise 20", NO_PAIR, () -> needsTwoReplicas("missing", (x, one, other) -> x.missing(one, other)));
        holds("Promise 20", "Throws `IllegalArgumentException` if they are the same", () ->
            needsAnother("missing", (x, r) -> x.missing(r, r)));
    }

    private static void clock() {
        holdsAtEachReplica("Promise 21", EdgesOperationsTest::oneTwoThree, (x, r) -> x.clock(r), 1, 2, 3);
        holds("Promise 21", "Returns the clock.", () -> {
            SharedSheet x = new SharedSheet();
            due("at first", x.clock(2), 0);
            x.move(2, ROWS, 0, 0);
            due("an operation that changes no place", x.clock(2), 1);
            fillLog(x, 2);
            due("a full log", x.clock(2), 40);
            refused("one more", STATE, () -> x.setNumber(2, 0, 0, 1));
            due("still", x.clock(2), 40);
            x.undo();
            due("undone", x.clock(2), 39);
            x.receive(0, 1, 1);
            due("nothing received", x.clock(0), 0);
        });
        holds("Promise 21", NO_REPLICA, () -> refusesOtherReplicas(Checks::nothing, (x, r) -> x.clock(r)));
    }

    private static void operation() {
        holdsAtEachReplica("Promise 22", EdgesOperationsTest::oneTwoThree, (x, r) -> x.operation(r, r, 1), 1, 2, 3);
        holds("Promise 22", "`k`: its index, from 0", () -> {
            SharedSheet x = after(EdgesOperationsTest::oneTwoThree);
            due("index 0", x.operation(2, 0, 1), 1);
            due("index 2", x.operation(2, 2, 1), 3);
            due("index 3", x.operation(2, 3, 1), NONE);
        });
        holds("Promise 22", "0 its number (1 to 4), 1 the clock of its stamp, 2 whether its line is a column (0 or "
                + "1; NONE for 4), 3 the number of its line (for 4 that of the row), 4 its place (for 4 the number "
                + "of the column; NONE for 3)", () -> {
            SharedSheet x = new SharedSheet();
            x.make(2, COLUMNS, 0);
            x.make(2, ROWS, 3);
            x.move(2, COLUMNS, 0, 3);
            x.move(2, ROWS, 3, 0);
            x.remove(2, COLUMNS, 0);
            x.remove(2, ROWS, 1);
            x.setNumber(2, 0, 2, 5);
            x.clearCell(2, 1, 0);
            formula(x, 2, 2, 1, "1");
            operationIs(x, 2, 0, 1, 1, 1, 9, 500);
            operationIs(x, 2, 1, 1, 2, 0, 9, 4000);
            operationIs(x, 2, 2, 2, 3, 1, 9, 4000);
            operationIs(x, 2, 3, 2, 4, 0, 9, 500);
            operationIs(x, 2, 4, 3, 5, 1, 0, NONE);
            operationIs(x, 2, 5, 3, 6, 0, 0, NONE);
            operationIs(x, 2, 6, 4, 7, NONE, 9, 9);
            operationIs(x, 2, 7, 4, 8, NONE, 1, 1);
            operationIs(x, 2, 8, 4, 9, NONE, 2, 2);
        });
        holds("Promise 22", "Returns that number; NONE if there is no such operation.", () -> {
            SharedSheet x = new SharedSheet();
            operationIs(x, 0, 0, NONE, NONE, NONE, NONE, NONE);
            x.setNumber(0, 0, 0, 1);
            due("the only one", x.operation(0, 0, 0), 4);
            due("behind it", x.operation(0, 1, 0), NONE);
            due("before it", x.operation(0, -1, 0), NONE);
            due("far behind", x.operation(0, Integer.MAX_VALUE, 0), NONE);
            due("far before", x.operation(0, Integer.MIN_VALUE, 0), NONE);
            x.settle();
            due("received is not made there", x.operation(1, 0, 0), NONE);
            fillLog(x, 0);
            due("the 40th", x.operation(0, 39, 1), 40);
            due("behind a full log", x.operation(0, 40, 1), NONE);
            x.undo();
            due("undone", x.operation(0, 39, 1), NONE);
            due("before what was undone", x.operation(0, 38, 1), 39);
            x.remove(0, ROWS, 2);
            operationIs(x, 0, 39, 3, 40, 0, 2, NONE);
        });
        holds("Promise 22", NO_REPLICA, () -> refusesOtherReplicas(Checks::nothing, (x, r) -> x.operation(r, 0, 0)));
        holds("Promise 22", "Throws `IllegalArgumentException` if what is not 0 to 4", () -> {
            for (int what : new int[] {Integer.MIN_VALUE, -1, 5, Integer.MAX_VALUE}) {
                refusedAfter(x -> x.make(0, ROWS, 0), ARGUMENT, "what " + what, x -> x.operation(0, 0, what));
                refusedAfter(Checks::nothing, ARGUMENT, "what " + what + " of none", x -> x.operation(0, 0, what));
                refusedAfter(Checks::nothing, ARGUMENT, "what " + what + " of -1", x -> x.operation(0, -1, what));
            }
            for (int what = 0; what <= 4; what++) {
                int asked = what;
                answeredAfter(x -> x.make(0, ROWS, 0), "what " + what, x -> x.operation(0, 0, asked));
            }
        });
    }

    // ---- two replicas

    private static void alike(String what, boolean want, Steps steps) {
        SharedSheet x = after(steps);
        due("areAlike(0, 1), " + what, x.areAlike(0, 1) ? 1 : 0, want ? 1 : 0);
        due("areAlike(1, 0), " + what, x.areAlike(1, 0) ? 1 : 0, want ? 1 : 0);
    }

    private static void areAlike() {
        holds("Promise 23", "the same lines in the same orders", () -> {
            alike("new", true, Checks::nothing);
            alike("a row less", false, x -> x.remove(0, ROWS, 2));
            alike("a column more", false, x -> x.make(0, COLUMNS, 3));
            alike("another order of rows", false, x -> x.move(0, ROWS, 0, 1));
            alike("another order of columns", false, x -> x.move(0, COLUMNS, 1, 2));
            alike("other places, the same order", true, x -> x.move(0, ROWS, 0, 0));
            alike("as many lines, others", false, x -> {
                x.make(0, ROWS, 0);
                x.make(1, ROWS, 0);
            });
            alike("no rows", true, x -> {
                removeAll(x, 0, ROWS);
                removeAll(x, 1, ROWS);
            });
            alike("no rows, and another order of columns", false, x -> {
                removeAll(x, 0, ROWS);
                removeAll(x, 1, ROWS);
                x.move(0, COLUMNS, 0, 1);
            });
            alike("no lines at all", true, x -> {
                for (int k = 0; k < 4; k++) {
                    removeAll(x, k / 2, k % 2 == 1);
                }
            });
        });
        holds("Promise 23", "for all shown cells the same kind, number and value or error",
                EdgesOperationsTest::alikeCells);
        holds("Promise 23", "Tells whether two replicas show the same", () -> {
            SharedSheet x = new SharedSheet();
            x.setNumber(1, 0, 0, 1);
            for (int r = 0; r < 3; r++) {
                dueTrue("itself", x.areAlike(r, r));
            }
            dueTrue("the two that did not change", x.areAlike(0, 2) && x.areAlike(2, 0));
            dueFalse("the one that did", x.areAlike(1, 2) || x.areAlike(2, 1));
        });
        holds("Promise 23", NEITHER, () ->
            needsTwoReplicas("areAlike", (x, one, other) -> x.areAlike(one, other) ? 1 : 0));
    }

    private static void alikeCells() {
        alike("an empty one and the number 0", false, x -> x.setNumber(0, 2, 2, 0));
        alike("never written and emptied", true, x -> x.clearCell(0, 2, 2));
        alike("other numbers", false, x -> {
            x.setNumber(0, 0, 0, 1);
            x.setNumber(1, 0, 0, -1);
        });
        alike("the same number, other stamps", true, x -> {
            x.clearCell(0, 0, 0);
            x.setNumber(0, 0, 0, 1);
            x.setNumber(1, 0, 0, 1);
        });
        alike("a number and a formula with its value", false, x -> {
            x.setNumber(0, 0, 0, 3);
            formula(x, 1, 0, 0, "3");
        });
        alike("other formulas, the same value", true, x -> {
            formula(x, 0, 0, 0, "1+2");
            formula(x, 1, 0, 0, "3+A2");
        });
        alike("other values", false, x -> {
            formula(x, 0, 2, 2, "1+2");
            formula(x, 1, 2, 2, "4");
        });
        alike("other errors", false, x -> {
            formula(x, 0, 0, 0, "A1");
            formula(x, 1, 0, 0, "9999*9999*99");
        });
        alike("an error and the value 0", false, x -> {
            formula(x, 0, 0, 0, "A1");
            formula(x, 1, 0, 0, "0");
        });
        alike("the same error of another cause", true, x -> {
            formula(x, 0, 0, 0, "9999*9999*90");
            formula(x, 1, 0, 0, "9999*9999*99");
        });
        alike("another content in a cell that is not shown", true, x -> {
            x.setNumber(0, 2, 2, 5);
            x.remove(0, COLUMNS, 2);
            x.remove(1, COLUMNS, 2);
        });
        alikeInEachCell();
    }

    private static void alikeInEachCell() {
        for (int k = 0; k < 9; k++) {
            int cell = k;
            alike("only cell " + k + " is another", false, x -> x.setNumber(0, cell / 3, cell % 3, 1));
        }
        alike("the last of two rows and three columns", false, x -> {
            x.setNumber(0, 1, 2, 1);
            x.remove(0, ROWS, 2);
            x.remove(1, ROWS, 2);
        });
        alike("the last of three rows and two columns", false, x -> {
            x.setNumber(0, 2, 1, 1);
            x.remove(0, COLUMNS, 2);
            x.remove(1, COLUMNS, 2);
        });
        SharedSheet z = new SharedSheet();
        z.setNumber(0, 2, 0, 1);
        z.setNumber(0, 0, 2, 1);
        dueFalse("two numbers", z.areAlike(0, 1));
        for (int k = 0; k < 4; k++) {
            z.remove(k / 2, k % 2 == 1, 2);
        }
        dueTrue("that are no longer shown", z.areAlike(0, 1));
        SharedSheet y = widest();
        dueTrue("144 empty cells", y.areAlike(0, 1));
        y.setNumber(0, 11, 11, 1);
        dueFalse("the last of them", y.areAlike(0, 1));
        y.undo();
        y.setNumber(0, 10, 11, 1);
        dueFalse("the last of the row before", y.areAlike(0, 1));
        y.remove(0, COLUMNS, 11);
        y.remove(1, COLUMNS, 11);
        dueTrue("without the last column", y.areAlike(0, 1));
    }

    private static void different() {
        holds("Promise 24", "Counts the cells for which a replica has another stamp than another one (all 12 times "
                + "12 cells, shown or not).", () -> {
            SharedSheet x = new SharedSheet();
            due("never written", x.different(0, 1), 0);
            x.clearCell(0, 0, 0);
            due("emptied and never written", x.different(0, 1), 1);
            x.clearCell(1, 0, 0);
            due("equal clocks, other replicas", x.different(0, 1), 1);
            x.receive(0, 1, 1);
            due("the same stamp", x.different(0, 1), 0);
            x.clearCell(0, 0, 0);
            due("another clock and replica", x.different(1, 0), 1);
            x.clearCell(0, 2, 2);
            due("two", x.different(0, 1), 2);
            x.remove(0, ROWS, 2);
            due("one of them not shown", x.different(0, 1), 2);
            removeAll(x, 0, COLUMNS);
            due("both not shown", x.different(0, 1), 2);
            due("itself", x.different(0, 0), 0);
            SharedSheet z = new SharedSheet();
            z.clearCell(0, 0, 1);
            z.clearCell(0, 0, 1);
            z.receive(1, 0, 1);
            due("another clock, the same replica", z.different(0, 1), 1);
            SharedSheet y = widest();
            for (int k = 0; k < 34; k++) {
                y.clearCell(0, k / 12, k % 12);
                y.clearCell(1, 11 - k / 12, 11 - k % 12);
            }
            due("from the first cell to the last", y.different(0, 1), 68);
            due("those of one", y.different(0, 2), 34);
        });
        holds("Promise 24", NEITHER, () -> needsTwoReplicas("different", (x, one, other) -> x.different(one, other)));
    }

    public static void main(String[] args) {
        receive();
        settle();
        missing();
        clock();
        operation();
        areAlike();
        different();
        finishSentences();
    }
}
