import java.io.IOException;
import java.nio.file.Files;
import java.nio.file.Path;
import java.util.ArrayList;
import java.util.List;

/** What the tests have in common: how answers are compared, how refusals are, and steps that many of them take. */
abstract class Checks {
    static final boolean ROWS = false;
    static final boolean COLUMNS = true;
    static final int NONE = SharedSheet.NONE;
    static final Class<?> INDEX = IndexOutOfBoundsException.class;
    static final Class<?> ARGUMENT = IllegalArgumentException.class;
    static final Class<?> STATE = IllegalStateException.class;

    private static final Path DOCUMENT = Path.of("../shared/DOC.md");
    private static final int[] NO_REPLICAS = {Integer.MIN_VALUE, -1, 3, Integer.MAX_VALUE};

    private static String where = "";
    private static int checks;
    private static int wrong;
    private static final List<String[]> sentences = new ArrayList<>();

    interface Call {
        long answer();
    }

    interface Steps {
        void on(SharedSheet x);
    }

    interface Question {
        long of(SharedSheet x);
    }

    interface QuestionAtReplica {
        long of(SharedSheet x, int replica);
    }

    interface QuestionAtCell {
        long of(SharedSheet x, int row, int column);
    }

    // ---- checks

    /** Says what the checks from here on are about. */
    static void about(String what) {
        where = what;
    }

    /** One sentence of the document, word by word, with the test that fails if it is broken. */
    static void holds(String section, String sentence, Runnable test) {
        about(section + ", \"" + sentence + "\"");
        sentences.add(new String[] {section, sentence});
        int before = checks;
        try {
            test.run();
        } catch (RuntimeException e) {
            complain("a call threw " + e);
        }
        if (checks == before) {
            complain("has no check");
        }
    }

    static void due(String what, long got, long want) {
        checks++;
        if (got != want) {
            complain(what + " answered " + got + ", due is " + want);
        }
    }

    static void dueTrue(String what, boolean got) {
        due(what, got ? 1 : 0, 1);
    }

    static void dueFalse(String what, boolean got) {
        due(what, got ? 1 : 0, 0);
    }

    /** The very class: what the machine throws by itself are classes below those of the document. */
    static void refused(String what, Class<?> want, Call call) {
        checks++;
        try {
            long got = call.answer();
            complain(what + " answered " + got + ", due is " + want);
        } catch (RuntimeException e) {
            if (e.getClass() != want) {
                complain(what + " threw " + e + ", due is " + want);
            }
        }
    }

    /** Wrong calls must also leave everything as it was. */
    static void refusedUnchanged(SharedSheet x, String what, Class<?> want, Call call) {
        long before = x.checksum();
        refused(what, want, call);
        due("checksum() behind " + what, x.checksum(), before);
    }

    /** The call is refused, and behind it the object answers like a twin that has never met the call. */
    static void refusedAfter(Steps steps, Class<?> want, String what, Question call) {
        SharedSheet x = after(steps);
        refused(what, want, () -> call.of(x));
        dueTrue(what + " changes nothing", traceOf(x).equals(traceOf(after(steps))));
    }

    // ---- sentences that many promises have

    /** The three answers that are due at the replicas 0 to 2, each on an object of its own. */
    static void holdsAtEachReplica(String section, Steps steps, QuestionAtReplica call, long... want) {
        holds(section, "`replica`: a replica, 0 to 2", () -> {
            for (int replica = 0; replica < 3; replica++) {
                due("at replica " + replica, call.of(after(steps), replica), want[replica]);
            }
        });
    }

    /** Only the replicas 0 to 2 are there for this call. */
    static void refusesOtherReplicas(Steps steps, QuestionAtReplica call) {
        for (int replica : NO_REPLICAS) {
            refusedAfter(steps, INDEX, "replica " + replica, x -> call.of(x, replica));
        }
    }

    /** Replica 0 shows the rows 0 to 3 and the columns 0 and 2. */
    static void fourByTwo(SharedSheet x) {
        x.make(0, ROWS, 3);
        x.remove(0, COLUMNS, 1);
    }

    /** The first and the last cell of four by two have formulas. */
    static void fourByTwoWithFormulas(SharedSheet x) {
        fourByTwo(x);
        text(x, "7");
        x.setFormula(0, 0, 0);
        x.setFormula(0, 3, 1);
    }

    /** Asks for every row and column of a sheet that shows four by two. */
    static void holdsAtEachCell(String section, Steps steps, QuestionAtCell call, QuestionAtCell want) {
        holds(section, "`row`: the position of a row that it shows", () -> {
            for (int row = 0; row < 4; row++) {
                SharedSheet x = after(steps);
                due("in row " + row, call.of(x, row, 1), want.of(x, row, 1));
            }
        });
        holds(section, "`column`: the position of a column that it shows", () -> {
            for (int column = 0; column < 2; column++) {
                SharedSheet x = after(steps);
                due("in column " + column, call.of(x, 2, column), want.of(x, 2, column));
            }
        });
    }

    /** Only the rows and columns that replica 0 shows are there for this call. */
    static void refusesOtherCells(QuestionAtCell call) {
        Steps steps = Checks::fourByTwoWithFormulas;
        for (int row : new int[] {Integer.MIN_VALUE, -1, 4, 12, Integer.MAX_VALUE}) {
            refusedAfter(steps, INDEX, "row " + row, x -> call.of(x, row, 0));
        }
        for (int column : new int[] {Integer.MIN_VALUE, -1, 2, 3, 12, Integer.MAX_VALUE}) {
            refusedAfter(steps, INDEX, "column " + column, x -> call.of(x, 0, column));
        }
        answeredAfter(steps, "the first cell", x -> call.of(x, 0, 0));
        answeredAfter(steps, "the last cell", x -> call.of(x, 3, 1));
        refusedAfter(x -> removeAll(x, 0, ROWS), INDEX, "without rows", x -> call.of(x, 0, 0));
        refusedAfter(x -> removeAll(x, 0, COLUMNS), INDEX, "without columns", x -> call.of(x, 0, 0));
    }

    /** The call ends normally, whatever it answers. */
    static void answeredAfter(Steps steps, String what, Question call) {
        checks++;
        SharedSheet x = after(steps);
        try {
            call.of(x);
        } catch (RuntimeException e) {
            complain(what + " threw " + e + ", due is an answer");
        }
    }

    private static void complain(String what) {
        wrong++;
        System.out.println(where + ": " + what);
    }

    /** Ends the program, with exit code 1 if an answer was not the one that is due. */
    static void finish(String what) {
        tellSentencesThatAreGone();
        System.out.println(what + ", " + checks + " answers, " + wrong + " not as due");
        if (wrong != 0) {
            System.exit(1);
        }
    }

    static void finishSentences() {
        finish(sentences.size() + " sentences");
    }

    /** The document may be written anew while the program stays right, so this is told and is no fault. */
    private static void tellSentencesThatAreGone() {
        if (!Files.isReadable(DOCUMENT)) {
            return;
        }
        try {
            String document = plain(Files.readString(DOCUMENT));
            for (String[] one : sentences) {
                if (!sectionOf(document, one[0]).contains(plain(one[1]))) {
                    System.out.println("no longer in the document: " + one[0] + ", " + one[1]);
                }
            }
        } catch (IOException e) {
            System.out.println("the document can't be read: " + e);
        }
    }

    private static String sectionOf(String document, String section) {
        int start = Math.max(0, document.indexOf("## " + section.replaceAll(",.*", "")));
        int end = document.indexOf(" ## ", start);
        return document.substring(start, end < 0 ? document.length() : end);
    }

    private static String plain(String text) {
        return text.replace("`", "").replaceAll("\\s+", " ");
    }

    // ---- whole objects

    static SharedSheet after(Steps steps) {
        SharedSheet x = new SharedSheet();
        steps.on(x);
        return x;
    }

    /** All that can be asked without going through every cell and operation; it takes the records away. */
    static List<Long> traceOf(SharedSheet x) {
        List<Long> trace = new ArrayList<>();
        trace.add(x.checksum());
        for (char c : text(x).toCharArray()) {
            trace.add((long) c);
        }
        for (int replica = 0; replica < 3; replica++) {
            for (int number = 0; number < 12; number++) {
                trace.add((long) x.place(replica, ROWS, number));
                trace.add((long) x.place(replica, COLUMNS, number));
            }
            int length = logLength(x, replica);
            for (int what = 0; what < 5; what++) {
                trace.add((long) x.operation(replica, length - 1, what));
            }
            trace.add((long) x.different(replica, (replica + 1) % 3));
        }
        for (int k = 0; k < 5; k++) {
            trace.add((long) undoneOrNone(x));
            trace.add(x.checksum());
        }
        return trace;
    }

    private static int undoneOrNone(SharedSheet x) {
        try {
            return x.undo();
        } catch (IllegalStateException e) {
            return NONE;
        }
    }

    static int logLength(SharedSheet x, int replica) {
        int length = 0;
        while (length < 50 && x.operation(replica, length, 1) != NONE) {
            length++;
        }
        return length;
    }

    /** The checksum ends with the number of records, so without it the rest can be compared. */
    static long withoutRecords(SharedSheet x, int records) {
        return x.checksum() - records;
    }

    // ---- steps

    static void nothing(SharedSheet x) {
    }

    static void text(SharedSheet x, String text) {
        x.clearText();
        for (int i = 0; i < text.length(); i++) {
            x.type(text.charAt(i));
        }
    }

    static String text(SharedSheet x) {
        StringBuilder b = new StringBuilder();
        for (int c = x.character(0); c != NONE && b.length() < 30; c = x.character(b.length())) {
            b.append((char) c);
        }
        return b.toString();
    }

    static int formula(SharedSheet x, int replica, int row, int column, String text) {
        text(x, text);
        return x.setFormula(replica, row, column);
    }

    static void fillLog(SharedSheet x, int replica) {
        for (int k = 0; k < 40 && x.operation(replica, 39, 0) == NONE; k++) {
            x.setNumber(replica, 0, 0, k);
        }
    }

    static void removeAll(SharedSheet x, int replica, boolean columns) {
        for (int k = 0; k < 12 && x.shown(replica, columns) > 0; k++) {
            x.remove(replica, columns, 0);
        }
    }

    /** All rows and columns that there can be, at all replicas: 12 of each, in the order of their numbers. */
    static SharedSheet widest() {
        SharedSheet x = new SharedSheet();
        for (int r = 0; r < 3; r++) {
            for (int k = 0; k < 3; k++) {
                x.make(r, ROWS, x.shown(r, ROWS));
                x.make(r, COLUMNS, x.shown(r, COLUMNS));
            }
            x.settle();
        }
        return x;
    }

    // ---- answers that belong together

    static void linesAre(SharedSheet x, int replica, boolean columns, int... want) {
        due("shown(" + replica + ", " + columns + ")", x.shown(replica, columns), want.length);
        for (int p = 0; p < want.length; p++) {
            due("line(" + replica + ", " + columns + ", " + p + ")", x.line(replica, columns, p), want[p]);
        }
    }

    static void orderIs(SharedSheet x, int replica, int... want) {
        for (int k = 0; k < want.length; k++) {
            due("order(" + replica + ", " + k + ")", x.order(replica, k), want[k]);
        }
        due("order() behind the last", x.order(replica, want.length), NONE);
    }

    static void faultIs(SharedSheet x, String text, int want) {
        text(x, text);
        due("fault(0) of " + text, x.fault(0), want);
    }

    static void writtenIs(SharedSheet x, int replica, int row, int column, String want) {
        due("length of write()", x.write(replica, row, column), want.length());
        dueTrue("write() as " + want + ", it is " + text(x), text(x).equals(want));
    }

    static void valueIs(SharedSheet x, int row, int column, int want) {
        due("value(0, " + row + ", " + column + ")", x.value(0, row, column), want);
        due("error(0, " + row + ", " + column + ")", x.error(0, row, column), 0);
    }

    static void errorIs(SharedSheet x, int row, int column, int want) {
        due("value(0, " + row + ", " + column + ")", x.value(0, row, column), 0);
        due("error(0, " + row + ", " + column + ")", x.error(0, row, column), want);
    }

    static void stampIs(SharedSheet x, int replica, int row, int column, int clock, int writer) {
        due("clock of the stamp", x.cell(replica, row, column, 1), clock);
        due("replica of the stamp", x.cell(replica, row, column, 2), writer);
    }

    static void operationIs(SharedSheet x, int replica, int k, int... want) {
        for (int what = 0; what < want.length; what++) {
            due("operation(" + replica + ", " + k + ", " + what + ")", x.operation(replica, k, what), want[what]);
        }
    }
}
