import java.math.BigInteger;
import java.util.ArrayList;
import java.util.List;

/** Sentences of the promises 25 to 30 (texts, undo, checksum) that name a boundary case. */
public final class EdgesTextsTest extends Checks {
    private static final String NO_REPLICA = "Throws `IndexOutOfBoundsException` if there is no such replica";
    private static final String FULL_TEXT = "123456789012345678901234";

    // ---- texts

    private static void type() {
        holds("Promise 25", "`c`: its code, 32 to 126", () -> {
            for (int c = 32; c <= 126; c++) {
                SharedSheet x = new SharedSheet();
                due("type " + c, x.type(c), 1);
                due("character(0)", x.character(0), c);
            }
        });
        holds("Promise 25", "Returns the length of the text then.", () -> {
            SharedSheet x = new SharedSheet();
            for (int length = 1; length <= 24; length++) {
                due("character " + length, x.type('0' + length), length);
            }
            for (int k = 0; k < 24; k++) {
                due("character(" + k + ")", x.character(k), '1' + k);
            }
        });
        holds("Promise 25", "Throws `IllegalArgumentException` if c is out of range", () -> {
            for (int c : new int[] {Integer.MIN_VALUE, -1, 0, 10, 31, 127, 160, 65536 + 65, Integer.MAX_VALUE}) {
                refusedAfter(x -> text(x, "A"), ARGUMENT, "type " + c, x -> x.type(c));
            }
        });
        holds("Promise 25", "Throws `IllegalStateException` if the text has 24 characters or more", () -> {
            refusedAfter(x -> text(x, FULL_TEXT), STATE, "a 25th", x -> x.type('5'));
            refusedAfter(x -> {
                formula(x, 0, 0, 0, "1111+1111+1111+1111+1111");
                x.clearText();
                x.write(0, 0, 0);
            }, STATE, "a 25th behind what was written", x -> x.type('5'));
            answeredAfter(x -> text(x, FULL_TEXT.substring(1)), "a 24th", x -> x.type('5'));
            answeredAfter(x -> {
                text(x, FULL_TEXT);
                x.clearText();
            }, "a first again", x -> x.type('5'));
        });
    }

    private static void clearText() {
        holds("Promise 26", "Empties the text.", () -> {
            SharedSheet x = after(y -> text(y, FULL_TEXT));
            x.clearText();
            due("character(0)", x.character(0), NONE);
            due("character(23)", x.character(23), NONE);
            due("type", x.type('9'), 1);
            due("character(0)", x.character(0), '9');
            due("character(1)", x.character(1), NONE);
        });
        holds("Promise 26", "Returns the length that it had.", () -> {
            SharedSheet x = new SharedSheet();
            due("an empty text", x.clearText(), 0);
            x.type(' ');
            due("one character", x.clearText(), 1);
            due("empty again", x.clearText(), 0);
            due("a full text", after(y -> text(y, FULL_TEXT)).clearText(), 24);
        });
    }

    private static void fault() {
        holdsAtEachReplica("Promise 27", x -> {
            x.remove(1, ROWS, 0);
            x.remove(2, COLUMNS, 0);
            text(x, "1+C3");
        }, (x, r) -> x.fault(r), NONE, 3, 2);
        holds("Promise 27", "Returns the fault, an index from 0; NONE if there is none.", () -> {
            SharedSheet x = new SharedSheet();
            due("the empty text", x.fault(0), 0);
            faultIs(x, "?", 0);
            faultIs(x, "1", NONE);
            faultIs(x, "1?", 1);
            faultIs(x, "C3+1111-S(A1:C3)*12*1234", NONE);
            faultIs(x, "C3+1111-S(A1:C3)*12*123?", 23);
            faultIs(x, "C3+1111-S(A1:C3)*12*123+", 24);
            faultIs(x, FULL_TEXT, 4);
            due("it leaves the text", x.clearText(), 24);
            text(x, "S(A1:D4)");
            x.make(1, COLUMNS, 0);
            x.make(2, COLUMNS, 0);
            x.make(2, ROWS, 0);
            due("at 0", x.fault(0), 5);
            due("at 1", x.fault(1), 6);
            due("at 2", x.fault(2), NONE);
        });
        holds("Promise 27", NO_REPLICA, () -> refusesOtherReplicas(x -> text(x, "A1"), (x, r) -> x.fault(r)));
    }

    private static void character() {
        holds("Promise 28", "Returns its code; NONE if there is no such character.", () -> {
            SharedSheet x = new SharedSheet();
            due("of the empty text", x.character(0), NONE);
            x.type(32);
            x.type(126);
            due("the first", x.character(0), 32);
            due("the last", x.character(1), 126);
            due("behind the last", x.character(2), NONE);
            due("before the first", x.character(-1), NONE);
            due("far behind", x.character(Integer.MAX_VALUE), NONE);
            due("far before", x.character(Integer.MIN_VALUE), NONE);
            text(x, FULL_TEXT);
            due("the 24th", x.character(23), '4');
            due("the 25th", x.character(24), NONE);
            due("the 26th", x.character(25), NONE);
        });
    }

    // ---- undo

    private static void undo() {
        holds("Promise 29", "Returns how many records are left.", () -> {
            SharedSheet x = new SharedSheet();
            for (int k = 0; k < 5; k++) {
                x.settle();
            }
            for (int left = 3; left >= 0; left--) {
                due("undo()", x.undo(), left);
            }
            x.settle();
            due("undo()", x.undo(), 0);
        });
        holds("Promise 29", "Restores the latest record and removes it.", () -> {
            SharedSheet x = new SharedSheet();
            x.setNumber(0, 0, 0, 4);
            x.setNumber(0, 0, 0, 5);
            x.undo();
            due("the one before", x.value(0, 0, 0), 4);
            stampIs(x, 0, 0, 0, 1, 0);
            x.undo();
            due("none", x.cell(0, 0, 0, 0), 0);
            stampIs(x, 0, 0, 0, NONE, NONE);
            fillLog(x, 0);
            x.settle();
            x.undo();
            due("a settled full log", x.missing(1, 0) + x.missing(2, 0), 80);
            due("is not undone itself", x.clock(0), 40);
            due("nothing there", x.clock(1) + x.clock(2), 0);
            SharedSheet y = new SharedSheet();
            formula(y, 0, 0, 0, "A1+5");
            errorIs(y, 0, 0, 1);
            y.undo();
            valueIs(y, 0, 0, 0);
            due("no cycle is left", y.cycles(0) + y.cell(0, 0, 0, 5), 0);
        });
        holds("Promise 29", "Throws `IllegalStateException` if there is none", () -> {
            refusedAfter(Checks::nothing, STATE, "a new object", SharedSheet::undo);
            refusedAfter(x -> {
                x.make(0, ROWS, 0);
                x.undo();
            }, STATE, "all undone", SharedSheet::undo);
            refusedAfter(x -> text(x, "A1"), STATE, "only a text", SharedSheet::undo);
            refusedAfter(x -> {
                fillLog(x, 0);
                for (int k = 0; k < 4; k++) {
                    x.undo();
                }
            }, STATE, "a fifth", SharedSheet::undo);
        });
    }

    // ---- checksum

    private static void checksum() {
        holds("Promise 30", "It starts with h = 18539, and for each of the following numbers v, in order, h "
                + "becomes 31 * h + v (long arithmetic that wraps)", () -> {
            List<Long> numbers = new ArrayList<>();
            for (int r = 0; r < 3; r++) {
                add(numbers, 0, 0, 0, 0, 3, 0, 1000, 1, 2000, 2, 3000, 3, 0, 1000, 1, 2000, 2, 3000);
                for (int k = 0; k < 9; k++) {
                    add(numbers, 0, -1, -1, 0, 0, 0);
                }
                add(numbers, 0);
            }
            add(numbers, 0, 0);
            due("a new object", new SharedSheet().checksum(), checksumOf(numbers));
            due("it has wrapped", exactChecksumOf(numbers).bitLength() > 64 ? 1 : 0, 1);
        });
        holds("Promise 30", "for each replica its clock, the length of its log, the results of missing() for the "
                + "other replicas in ascending order; for rows and then for columns the number of lines shown, and "
                + "the number and the place of each; for each shown cell, row by row, the results of cell() for 0 "
                + "to 3, its value and its error; cycles(); the cells of the order of calculation, as order() "
                + "tells them; and, behind the replicas, the length of the text, and the number of records.", () -> {
            withoutLines();
            withAllSortsOfCells();
            withWhatIsNotShown();
            withFullLogs();
        });
    }

    private static void withoutLines() {
        SharedSheet x = new SharedSheet();
        for (int r = 0; r < 3; r++) {
            removeAll(x, r, ROWS);
        }
        removeAll(x, 2, COLUMNS);
        List<Long> numbers = new ArrayList<>();
        add(numbers, 3, 3, 3, 6, 0, 3, 0, 1000, 1, 2000, 2, 3000, 0);
        add(numbers, 3, 3, 3, 6, 0, 3, 0, 1000, 1, 2000, 2, 3000, 0);
        add(numbers, 6, 6, 3, 3, 0, 0, 0);
        add(numbers, 0, 4);
        due("without lines", x.checksum(), checksumOf(numbers));
        due("with a text", after(y -> text(y, FULL_TEXT)).checksum(), new SharedSheet().checksum() + 24 * 31);
    }

    private static void withAllSortsOfCells() {
        SharedSheet x = new SharedSheet();
        x.remove(0, ROWS, 0);
        formula(x, 0, 0, 0, "1000*1000*1000");
        formula(x, 0, 0, 1, "A2");
        formula(x, 0, 0, 2, "0-A1");
        formula(x, 0, 1, 0, "A2");
        formula(x, 0, 1, 1, "C1-1");
        x.setNumber(0, 1, 2, -9999);
        x.undo();
        x.setNumber(0, 1, 2, 9999);
        x.remove(1, ROWS, 0);
        x.remove(1, ROWS, 0);
        x.remove(1, ROWS, 0);
        x.remove(1, COLUMNS, 0);
        x.receive(2, 0, 1);
        x.move(2, ROWS, 0, 1);
        x.remove(2, ROWS, 0);
        x.remove(2, COLUMNS, 0);
        x.remove(2, COLUMNS, 0);
        List<Long> numbers = new ArrayList<>();
        add(numbers, 7, 7, 4, 4, 2, 1, 2000, 2, 3000, 3, 0, 1000, 1, 2000, 2, 3000);
        add(numbers, 2, 2, 0, 0, 1000000000, 0, 2, 3, 0, 0, 0, 1, 2, 4, 0, 0, -1000000000, 0);
        add(numbers, 2, 5, 0, 0, 0, 1, 2, 6, 0, 0, 0, 3, 1, 7, 0, 9999, 9999, 0);
        add(numbers, 1, 0, 2, 101);
        add(numbers, 4, 4, 7, 4, 0, 2, 1, 2000, 2, 3000, 0);
        add(numbers, 5, 4, 6, 4, 1, 1, 4000, 1, 2, 3000, 0, -1, -1, 0, 0, 0, 0);
        add(numbers, 4, 4);
        due("all sorts of cells", x.checksum(), checksumOf(numbers));
    }

    /** Places, stamps and formulas that are not shown do not count. */
    private static void withWhatIsNotShown() {
        SharedSheet x = new SharedSheet();
        x.setNumber(0, 2, 2, 5);
        x.remove(0, ROWS, 2);
        SharedSheet y = new SharedSheet();
        y.clearCell(0, 2, 0);
        y.remove(0, ROWS, 2);
        due("another cell that is not shown", x.checksum(), y.checksum());
        SharedSheet z = new SharedSheet();
        z.move(0, ROWS, 2, 2);
        z.remove(0, ROWS, 2);
        due("the place of a line that is not shown", z.checksum(), x.checksum());
    }

    private static void withFullLogs() {
        SharedSheet x = new SharedSheet();
        for (int r = 0; r < 3; r++) {
            fillLog(x, r);
        }
        x.receive(0, 2, 1);
        List<Long> numbers = new ArrayList<>();
        for (int r = 0; r < 3; r++) {
            add(numbers, 40, 40, 40, r == 0 ? 39 : 40, 3, 0, 1000, 1, 2000, 2, 3000, 3, 0, 1000, 1, 2000, 2, 3000);
            add(numbers, 1, 40, r, 39, 39, 0);
            for (int k = 1; k < 9; k++) {
                add(numbers, 0, -1, -1, 0, 0, 0);
            }
            add(numbers, 0);
        }
        add(numbers, 0, 4);
        due("full logs", x.checksum(), checksumOf(numbers));
    }

    private static void add(List<Long> numbers, long... more) {
        for (long number : more) {
            numbers.add(number);
        }
    }

    private static BigInteger exactChecksumOf(List<Long> numbers) {
        BigInteger sum = BigInteger.valueOf(18539);
        for (long number : numbers) {
            sum = sum.multiply(BigInteger.valueOf(31)).add(BigInteger.valueOf(number));
        }
        return sum;
    }

    private static long checksumOf(List<Long> numbers) {
        return exactChecksumOf(numbers).longValue();
    }

    public static void main(String[] args) {
        type();
        clearText();
        fault();
        character();
        undo();
        checksum();
        finishSentences();
    }
}
