import java.util.Arrays;

/**
 * A spreadsheet that is kept in three replicas.
 *
 * All that a replica shows follows from WHICH operations it has carried out, never from their order: the latest
 * stamp wins, and made and removed only ever become true. So a record for undo is nothing but how many operations
 * of each log each replica had carried out; the replicas are built anew from the logs.
 */
public final class SharedSheet {
    public static final int NONE = -1;

    private static final int REPLICAS = 3;
    private static final int LINES = 12;
    private static final int CELLS = LINES * LINES;
    private static final int FIRST_LINES = 3;
    private static final int LINES_EACH = 3;
    private static final int PLACE_STEP = 1000;
    private static final int LOG_LIMIT = 40;
    private static final int TEXT_LIMIT = 24;
    private static final int RECORD_LIMIT = 4;
    private static final int NUMBER_LIMIT = 9999;
    private static final int VALUE_LIMIT = 1000000000;
    private static final int DIGIT_LIMIT = 4;
    private static final int ROWS_WITH_DIGIT = 9;
    private static final int ORDER_ROW = 100;
    private static final int LAST_OF_CONTENT = 3;
    private static final long CHECKSUM_START = 18539;

    private static final int MAKE = 1;
    private static final int MOVE = 2;
    private static final int REMOVE = 3;
    private static final int WRITE = 4;

    private static final int EMPTY = 0;
    private static final int NUMBER = 1;
    private static final int FORMULA = 2;

    private static final int NO_ERROR = 0;
    private static final int ON_CYCLE = 1;
    private static final int NOT_SHOWN = 2;
    private static final int TOO_LARGE = 3;

    private final Replica[] replicas = new Replica[REPLICAS];
    private final Records records = new Records();
    private final Text text = new Text();
    private final Reader reader = new Reader();

    public SharedSheet() {
        for (int r = 0; r < REPLICAS; r++) {
            replicas[r] = new Replica(r);
        }
    }

    // ---- lines

    public int make(int replica, boolean columns, int position)
            throws IndexOutOfBoundsException, IllegalStateException {
        Replica here = replicaAt(replica);
        Lines lines = here.linesOf(columns);
        requireIndex(position, lines.count() + 1);
        int number = here.nextLine(columns);
        int between = lines.placeBetween(position, NONE);
        if (number == NONE || between == NONE) {
            throw new IllegalStateException("no further line can be made here");
        }
        changeLine(here, MAKE, columns, number, between);
        return number;
    }

    public int move(int replica, boolean columns, int from, int to)
            throws IndexOutOfBoundsException, IllegalStateException {
        Replica here = replicaAt(replica);
        Lines lines = here.linesOf(columns);
        requireIndex(from, lines.count());
        requireIndex(to, lines.count());
        int number = lines.numberAt(from);
        int between = lines.placeBetween(to, number);
        if (between == NONE) {
            throw new IllegalStateException("no room between the lines");
        }
        changeLine(here, MOVE, columns, number, between);
        return lines.positionOf(number);
    }

    public int remove(int replica, boolean columns, int position)
            throws IndexOutOfBoundsException, IllegalStateException {
        Replica here = replicaAt(replica);
        Lines lines = here.linesOf(columns);
        requireIndex(position, lines.count());
        changeLine(here, REMOVE, columns, lines.numberAt(position), NONE);
        return lines.count();
    }

    public int shown(int replica, boolean columns) throws IndexOutOfBoundsException {
        return replicaAt(replica).linesOf(columns).count();
    }

    public int line(int replica, boolean columns, int position) throws IndexOutOfBoundsException {
        return replicaAt(replica).linesOf(columns).numberAt(position);
    }

    public int position(int replica, boolean columns, int number)
            throws IndexOutOfBoundsException, IllegalArgumentException {
        Replica here = replicaAt(replica);
        requireArgument(number, 0, LINES - 1);
        return here.linesOf(columns).positionOf(number);
    }

    public int place(int replica, boolean columns, int number)
            throws IndexOutOfBoundsException, IllegalArgumentException {
        Replica here = replicaAt(replica);
        requireArgument(number, 0, LINES - 1);
        return here.linesOf(columns).placeOf(number);
    }

    // ---- cells

    public int setNumber(int replica, int row, int column, int number)
            throws IndexOutOfBoundsException, IllegalArgumentException, IllegalStateException {
        Replica here = replicaAt(replica);
        requireCell(here, row, column);
        requireArgument(number, -NUMBER_LIMIT, NUMBER_LIMIT);
        return writeContent(here, row, column, new Content(NUMBER, number, null));
    }

    public int clearCell(int replica, int row, int column)
            throws IndexOutOfBoundsException, IllegalStateException {
        Replica here = replicaAt(replica);
        requireCell(here, row, column);
        return writeContent(here, row, column, new Content(EMPTY, 0, null));
    }

    public int setFormula(int replica, int row, int column)
            throws IndexOutOfBoundsException, IllegalArgumentException, IllegalStateException {
        Replica here = replicaAt(replica);
        requireCell(here, row, column);
        if (reader.read(text, here) != NONE) {
            throw new IllegalArgumentException("the text is no formula at this replica");
        }
        return writeContent(here, row, column, new Content(FORMULA, 0, reader.formula()));
    }

    public int cell(int replica, int row, int column, int what)
            throws IndexOutOfBoundsException, IllegalArgumentException {
        Replica here = replicaAt(replica);
        requireCell(here, row, column);
        requireArgument(what, 0, 6);
        int cell = row * LINES + column;
        return what <= LAST_OF_CONTENT ? aboutContent(here, cell, what)
                : aboutReferences(here.calculation.upToDate(here), cell, what);
    }

    public int value(int replica, int row, int column) throws IndexOutOfBoundsException {
        Replica here = replicaAt(replica);
        requireCell(here, row, column);
        return here.calculation.upToDate(here).valueAt(row * LINES + column);
    }

    public int error(int replica, int row, int column) throws IndexOutOfBoundsException {
        Replica here = replicaAt(replica);
        requireCell(here, row, column);
        return here.calculation.upToDate(here).errorAt(row * LINES + column);
    }

    public int write(int replica, int row, int column)
            throws IndexOutOfBoundsException, IllegalStateException {
        Replica here = replicaAt(replica);
        requireCell(here, row, column);
        Formula formula = here.contentAt(row * LINES + column).formula;
        if (formula == null) {
            throw new IllegalStateException("the cell has no formula");
        }
        text.empty();
        formula.appendTo(text, here);
        return text.length();
    }

    public int cycles(int replica) throws IndexOutOfBoundsException {
        Replica here = replicaAt(replica);
        return here.calculation.upToDate(here).cycleCount();
    }

    public int order(int replica, int k) throws IndexOutOfBoundsException {
        Replica here = replicaAt(replica);
        return toldOrder(here.calculation.upToDate(here), k);
    }

    // ---- operations

    public int receive(int replica, int from, int count)
            throws IndexOutOfBoundsException, IllegalArgumentException {
        Replica here = replicaAt(replica);
        Replica there = replicaAt(from);
        requireOther(here, there);
        requireArgument(count, 1, LOG_LIMIT);
        records.keep(replicas);
        return here.take(there, count);
    }

    public int settle() {
        records.keep(replicas);
        int taken = 0;
        for (int r = 0; r < REPLICAS; r++) {
            for (int from = 0; from < REPLICAS; from++) {
                if (from != r) {
                    taken += replicas[r].take(replicas[from], LOG_LIMIT);
                }
            }
        }
        return taken;
    }

    public int missing(int replica, int from) throws IndexOutOfBoundsException, IllegalArgumentException {
        Replica here = replicaAt(replica);
        Replica there = replicaAt(from);
        requireOther(here, there);
        return here.lacking(there);
    }

    public int clock(int replica) throws IndexOutOfBoundsException {
        return replicaAt(replica).clock;
    }

    public int operation(int replica, int k, int what)
            throws IndexOutOfBoundsException, IllegalArgumentException {
        Replica here = replicaAt(replica);
        requireArgument(what, 0, 4);
        if (k < 0 || k >= here.logLength()) {
            return NONE;
        }
        Operation logged = here.logged(k);
        return logged == null ? NONE : aboutOperation(logged, what);
    }

    public boolean areAlike(int one, int other) throws IndexOutOfBoundsException {
        Replica left = replicaAt(one);
        Replica right = replicaAt(other);
        if (!left.rows.isArrangedLike(right.rows) || !left.columns.isArrangedLike(right.columns)) {
            return false;
        }
        Calculation ofLeft = left.calculation.upToDate(left);
        Calculation ofRight = right.calculation.upToDate(right);
        for (int row = 0; row < left.rows.count(); row++) {
            for (int column = 0; column < left.columns.count(); column++) {
                int cell = row * LINES + column;
                if (!hasSameContent(left, right, cell) || !hasSameResult(ofLeft, ofRight, cell)) {
                    return false;
                }
            }
        }
        return true;
    }

    public int different(int one, int other) throws IndexOutOfBoundsException {
        Replica left = replicaAt(one);
        Replica right = replicaAt(other);
        int count = 0;
        for (int name = 0; name < CELLS; name++) {
            if (!hasSameStamp(left.writerOf(name), right.writerOf(name))) {
                count++;
            }
        }
        return count;
    }

    // ---- texts, undo

    public int type(int c) throws IllegalArgumentException, IllegalStateException {
        requireArgument(c, 32, 126);
        if (text.isFull()) {
            throw new IllegalStateException("the text is full");
        }
        text.append(c);
        return text.length();
    }

    public int clearText() {
        int before = text.length();
        text.empty();
        return before;
    }

    public int fault(int replica) throws IndexOutOfBoundsException {
        return reader.read(text, replicaAt(replica));
    }

    public int character(int index) {
        return text.at(index);
    }

    public int undo() throws IllegalStateException {
        if (records.count() == 0) {
            throw new IllegalStateException("there is no record");
        }
        records.restoreLatest(replicas);
        return records.count();
    }

    public long checksum() {
        long sum = CHECKSUM_START;
        for (int r = 0; r < REPLICAS; r++) {
            Replica here = replicas[r];
            sum = mixed(sum, here.clock);
            sum = mixed(sum, here.logLength());
            for (int from = 0; from < REPLICAS; from++) {
                if (from != r) {
                    sum = mixed(sum, here.lacking(replicas[from]));
                }
            }
            sum = mixedLines(sum, here.rows);
            sum = mixedLines(sum, here.columns);
            Calculation calculation = here.calculation.upToDate(here);
            sum = mixedCells(sum, here, calculation);
            sum = mixedOrder(sum, calculation);
        }
        sum = mixed(sum, text.length());
        return mixed(sum, records.count());
    }

    // ---- what the calls have in common

    private Replica replicaAt(int replica) {
        if (replica < 0 || replica >= REPLICAS) {
            throw new IndexOutOfBoundsException("no such replica");
        }
        return replicas[replica];
    }

    private static void requireIndex(int index, int end) {
        if (index < 0 || index >= end) {
            throw new IndexOutOfBoundsException("no such position");
        }
    }

    private static void requireCell(Replica here, int row, int column) {
        requireIndex(row, here.rows.count());
        requireIndex(column, here.columns.count());
    }

    private static void requireArgument(int argument, int least, int most) {
        if (argument < least || argument > most) {
            throw new IllegalArgumentException("the argument is out of range");
        }
    }

    private static void requireOther(Replica here, Replica there) {
        if (here == there) {
            throw new IllegalArgumentException("it is the same replica");
        }
    }

    private static void requireLogRoom(Replica here) {
        if (here.logLength() >= LOG_LIMIT) {
            throw new IllegalStateException("the log is full");
        }
    }

    private void changeLine(Replica here, int kind, boolean columns, int number, int place) {
        requireLogRoom(here);
        records.keep(replicas);
        here.append(new Operation(kind, here.nextClock(), here.number, columns ? 1 : 0, number, place, null));
    }

    private int writeContent(Replica here, int row, int column, Content content) {
        requireLogRoom(here);
        int rowNumber = here.rows.numberAt(row);
        int columnNumber = here.columns.numberAt(column);
        records.keep(replicas);
        here.append(new Operation(WRITE, here.nextClock(), here.number, NONE, rowNumber, columnNumber, content));
        return here.clock;
    }

    private static int aboutContent(Replica here, int cell, int what) {
        Operation writer = here.writerAt(cell);
        switch (what) {
            case 0:
                return here.contentAt(cell).kind;
            case 1:
                return writer == null ? NONE : writer.clock;
            case 2:
                return writer == null ? NONE : writer.replica;
            default:
                return here.contentAt(cell).number;
        }
    }

    private static int aboutReferences(Calculation calculation, int cell, int what) {
        switch (what) {
            case 4:
                return calculation.countReferences(cell);
            case 5:
                return calculation.countReferrers(cell);
            default:
                return calculation.isOnCycle(cell) ? 1 : 0;
        }
    }

    private static int aboutOperation(Operation logged, int what) {
        switch (what) {
            case 0:
                return logged.kind;
            case 1:
                return logged.clock;
            case 2:
                return logged.columns;
            case 3:
                return logged.line;
            default:
                return logged.place;
        }
    }

    private static int toldOrder(Calculation calculation, int k) {
        int cell = calculation.orderedAt(k);
        return cell == NONE ? NONE : cell / LINES * ORDER_ROW + cell % LINES;
    }

    private static boolean hasSameContent(Replica left, Replica right, int cell) {
        Content ofLeft = left.contentAt(cell);
        Content ofRight = right.contentAt(cell);
        return ofLeft.kind == ofRight.kind && ofLeft.number == ofRight.number;
    }

    private static boolean hasSameResult(Calculation left, Calculation right, int cell) {
        return left.valueAt(cell) == right.valueAt(cell) && left.errorAt(cell) == right.errorAt(cell);
    }

    private static boolean hasSameStamp(Operation left, Operation right) {
        if (left == null || right == null) {
            return left == null && right == null;
        }
        return left.clock == right.clock && left.replica == right.replica;
    }

    private static long mixed(long sum, long number) {
        return 31 * sum + number;
    }

    private static long mixedLines(long sum, Lines lines) {
        long mix = mixed(sum, lines.count());
        for (int p = 0; p < lines.count(); p++) {
            int number = lines.numberAt(p);
            mix = mixed(mix, number);
            mix = mixed(mix, lines.placeOf(number));
        }
        return mix;
    }

    private static long mixedCells(long sum, Replica here, Calculation calculation) {
        long mix = sum;
        for (int row = 0; row < here.rows.count(); row++) {
            for (int column = 0; column < here.columns.count(); column++) {
                int cell = row * LINES + column;
                for (int what = 0; what <= LAST_OF_CONTENT; what++) {
                    mix = mixed(mix, aboutContent(here, cell, what));
                }
                mix = mixed(mix, calculation.valueAt(cell));
                mix = mixed(mix, calculation.errorAt(cell));
            }
        }
        return mix;
    }

    private static long mixedOrder(long sum, Calculation calculation) {
        long mix = mixed(sum, calculation.cycleCount());
        for (int k = 0; k < calculation.orderedCount(); k++) {
            mix = mixed(mix, toldOrder(calculation, k));
        }
        return mix;
    }

    private static boolean isCell(int cell) {
        return cell >= 0 && cell < CELLS;
    }

    /** What was done at a replica. For WRITE, line is the row's number and place the column's. */
    private static final class Operation {
        final int kind;
        final int clock;
        final int replica;
        final int columns;
        final int line;
        final int place;
        final Content content;

        Operation(int kind, int clock, int replica, int columns, int line, int place, Content content) {
            this.kind = kind;
            this.clock = clock;
            this.replica = replica;
            this.columns = columns;
            this.line = line;
            this.place = place;
            this.content = content;
        }

        boolean isLaterThan(int otherClock, int otherReplica) {
            return clock > otherClock || clock == otherClock && replica > otherReplica;
        }
    }

    private static final class Content {
        final int kind;
        final int number;
        final Formula formula;

        Content(int kind, int number, Formula formula) {
            this.kind = kind;
            this.number = number;
            this.formula = formula;
        }
    }

    /** The rows, or the columns, of one replica. */
    private static final class Lines {
        private final int[] places = new int[LINES];
        private final int[] clocks = new int[LINES];
        private final int[] stampers = new int[LINES];
        private final boolean[] made = new boolean[LINES];
        private final boolean[] removed = new boolean[LINES];
        private final int[] arranged = new int[LINES];
        private int count;

        Lines() {
            reset();
        }

        void reset() {
            count = 0;
            for (int number = 0; number < LINES; number++) {
                boolean isFirst = number < FIRST_LINES;
                places[number] = isFirst ? PLACE_STEP * (number + 1) : NONE;
                clocks[number] = isFirst ? 0 : -1;
                stampers[number] = 0;
                made[number] = isFirst;
                removed[number] = false;
                arrange(number);
            }
        }

        int count() {
            return count;
        }

        int numberAt(int position) {
            return position < 0 || position >= count ? NONE : arranged[position];
        }

        int positionOf(int number) {
            for (int p = 0; p < count; p++) {
                if (arranged[p] == number) {
                    return p;
                }
            }
            return NONE;
        }

        int placeOf(int number) {
            return number < 0 || number >= LINES ? NONE : places[number];
        }

        boolean isMade(int number) {
            return number >= 0 && number < LINES && made[number];
        }

        boolean isArrangedLike(Lines other) {
            if (count != other.count) {
                return false;
            }
            for (int p = 0; p < count; p++) {
                if (arranged[p] != other.arranged[p]) {
                    return false;
                }
            }
            return true;
        }

        void carryOut(Operation done) {
            int number = done.line;
            if (number < 0 || number >= LINES) {
                return;
            }
            if (done.kind == REMOVE) {
                removed[number] = true;
            } else {
                made[number] = made[number] || done.kind == MAKE;
                if (done.isLaterThan(clocks[number], stampers[number])) {
                    places[number] = done.place;
                    clocks[number] = done.clock;
                    stampers[number] = done.replica;
                }
            }
            arrange(number);
        }

        /** The place for a line at a position among the lines but the one left out; NONE if there is no room. */
        int placeBetween(int position, int leftOut) {
            int before = numberWithout(position - 1, leftOut);
            int behind = numberWithout(position, leftOut);
            int lower = before == NONE ? 0 : placeOf(before);
            int upper = behind == NONE ? lower + 2 * PLACE_STEP : placeOf(behind);
            int between = Math.floorDiv(lower + upper, 2);
            return between > lower ? between : NONE;
        }

        private int numberWithout(int position, int leftOut) {
            int at = positionOf(leftOut);
            return numberAt(at != NONE && position >= at ? position + 1 : position);
        }

        /** Only this one line has changed, so the others are in order already. */
        private void arrange(int number) {
            int kept = 0;
            for (int p = 0; p < count; p++) {
                if (arranged[p] != number) {
                    arranged[kept] = arranged[p];
                    kept++;
                }
            }
            count = kept;
            if (!made[number] || removed[number] || count >= LINES) {
                return;
            }
            int p = count;
            while (p > 0 && isBefore(number, arranged[p - 1])) {
                arranged[p] = arranged[p - 1];
                p--;
            }
            arranged[p] = number;
            count++;
        }

        private boolean isBefore(int number, int other) {
            return places[number] < places[other] || places[number] == places[other] && number < other;
        }
    }

    /**
     * One replica with its log. A cell has two names here: one made of the numbers of its lines (name), which
     * stays, and one made of their positions (cell), which calls use; both are row times LINES plus column.
     */
    private static final class Replica {
        final int number;
        final Lines rows = new Lines();
        final Lines columns = new Lines();
        final Calculation calculation = new Calculation();
        int clock;
        private final Operation[] log = new Operation[LOG_LIMIT];
        private final int[] carried = new int[REPLICAS];
        private final Operation[] writers = new Operation[CELLS];
        private final Content nothing = new Content(EMPTY, 0, null);

        Replica(int number) {
            this.number = number;
        }

        Lines linesOf(boolean ofColumns) {
            return ofColumns ? columns : rows;
        }

        int nextClock() {
            return clock + 1;
        }

        int nextLine(boolean ofColumns) {
            int first = FIRST_LINES + LINES_EACH * number;
            for (int k = 0; k < LINES_EACH; k++) {
                if (!linesOf(ofColumns).isMade(first + k)) {
                    return first + k;
                }
            }
            return NONE;
        }

        /** How many operations of a replica's log have been carried out here; of its own, that is all. */
        int carriedOf(int replica) {
            return replica < 0 || replica >= REPLICAS ? 0 : carried[replica];
        }

        int logLength() {
            return carriedOf(number);
        }

        /** Also beyond the log's length: undo builds one replica while the next ones are still to be built. */
        Operation logged(int k) {
            return k < 0 || k >= LOG_LIMIT ? null : log[k];
        }

        int lacking(Replica there) {
            return there.logLength() - carriedOf(there.number);
        }

        void append(Operation made) {
            int k = logLength();
            if (k < LOG_LIMIT) {
                log[k] = made;
                carryOut(made);
            }
        }

        int take(Replica there, int most) {
            int count = Math.min(most, lacking(there));
            for (int k = 0; k < count; k++) {
                carryOut(there.logged(carriedOf(there.number)));
            }
            return count;
        }

        void reset() {
            clock = 0;
            Arrays.fill(carried, 0);
            rows.reset();
            columns.reset();
            for (int name = 0; name < CELLS; name++) {
                writers[name] = null;
            }
            calculation.outdate();
        }

        void carryOut(Operation done) {
            if (done == null || done.replica < 0 || done.replica >= REPLICAS) {
                return;
            }
            carried[done.replica]++;
            clock = Math.max(clock, done.clock);
            if (done.kind == WRITE) {
                carryOutWrite(done);
            } else {
                linesOf(done.columns == 1).carryOut(done);
            }
            calculation.outdate();
        }

        private void carryOutWrite(Operation done) {
            int name = done.line * LINES + done.place;
            if (!isCell(name)) {
                return;
            }
            Operation before = writers[name];
            if (before == null || done.isLaterThan(before.clock, before.replica)) {
                writers[name] = done;
            }
        }

        Operation writerOf(int name) {
            return isCell(name) ? writers[name] : null;
        }

        Operation writerAt(int cell) {
            int row = rows.numberAt(Math.floorDiv(cell, LINES));
            int column = columns.numberAt(Math.floorMod(cell, LINES));
            return row == NONE || column == NONE ? null : writerOf(row * LINES + column);
        }

        /** Where a cell is shown; NONE if it is not. */
        int cellOf(int name) {
            int row = rows.positionOf(Math.floorDiv(name, LINES));
            int column = columns.positionOf(Math.floorMod(name, LINES));
            return row == NONE || column == NONE ? NONE : row * LINES + column;
        }

        Content contentAt(int cell) {
            Operation writer = writerAt(cell);
            return writer == null || writer.content == null ? nothing : writer.content;
        }
    }

    /** What undo needs: for each record, how many operations of each log each replica had carried out. */
    private static final class Records {
        private static final int SIZE = REPLICAS * REPLICAS;

        private final int[] carried = new int[RECORD_LIMIT * SIZE];
        private int count;

        int count() {
            return count;
        }

        void keep(Replica[] replicas) {
            if (count >= RECORD_LIMIT) {
                dropOldest();
            }
            for (int k = 0; k < SIZE; k++) {
                carried[count * SIZE + k] = replicas[k / REPLICAS].carriedOf(k % REPLICAS);
            }
            count++;
        }

        private void dropOldest() {
            for (int k = SIZE; k < carried.length; k++) {
                carried[k - SIZE] = carried[k];
            }
            count = RECORD_LIMIT - 1;
        }

        void restoreLatest(Replica[] replicas) {
            if (count <= 0) {
                return;
            }
            count--;
            for (int r = 0; r < REPLICAS; r++) {
                replicas[r].reset();
                for (int from = 0; from < REPLICAS; from++) {
                    int most = carried[count * SIZE + r * REPLICAS + from];
                    for (int k = 0; k < most; k++) {
                        replicas[r].carryOut(replicas[from].logged(k));
                    }
                }
            }
        }
    }

    private static final class Text {
        private final char[] characters = new char[TEXT_LIMIT];
        private int length;

        int length() {
            return length;
        }

        boolean isFull() {
            return length >= TEXT_LIMIT;
        }

        int at(int index) {
            return index < 0 || index >= length ? NONE : characters[index];
        }

        void empty() {
            length = 0;
        }

        void append(int c) {
            if (!isFull()) {
                characters[length] = (char) c;
                length++;
            }
        }

        void appendNumber(int number) {
            for (int unit = 1000; unit > 1; unit /= 10) {
                if (number >= unit) {
                    append('0' + number / unit % 10);
                }
            }
            append('0' + number % 10);
        }
    }

    /**
     * A formula as a row of factors, each with the sign in front of it ('+' for the first one). Of a number factor
     * the first part is the number. The others have two corners, named by the numbers of their lines: a cell has
     * itself as both, so that it is referred to and calculated as the sum of one cell.
     */
    private static final class Formula {
        static final int NUMBER_FACTOR = 0;
        static final int CELL_FACTOR = 1;
        static final int SUM_FACTOR = 2;
        static final int PARTS = 4;

        private final int[] parts;

        Formula(int[] parts) {
            this.parts = parts;
        }

        int factors() {
            return parts.length / PARTS;
        }

        int signOf(int factor) {
            return partAt(factor * PARTS);
        }

        int kindOf(int factor) {
            return partAt(factor * PARTS + 1);
        }

        int firstOf(int factor) {
            return partAt(factor * PARTS + 2);
        }

        int secondOf(int factor) {
            return partAt(factor * PARTS + 3);
        }

        private int partAt(int index) {
            return index < 0 || index >= parts.length ? 0 : parts[index];
        }

        void appendTo(Text text, Replica here) {
            for (int k = 0; k < factors(); k++) {
                if (k > 0) {
                    text.append(signOf(k));
                }
                if (kindOf(k) == NUMBER_FACTOR) {
                    text.appendNumber(firstOf(k));
                } else if (kindOf(k) == CELL_FACTOR) {
                    appendCell(text, here, firstOf(k));
                } else {
                    text.append('S');
                    text.append('(');
                    appendCell(text, here, firstOf(k));
                    text.append(':');
                    appendCell(text, here, secondOf(k));
                    text.append(')');
                }
            }
        }

        private static void appendCell(Text text, Replica here, int name) {
            int cell = here.cellOf(name);
            if (cell == NONE || cell / LINES >= ROWS_WITH_DIGIT) {
                text.append('#');
            } else {
                text.append('A' + cell % LINES);
                text.append('1' + cell / LINES);
            }
        }
    }

    /** Reads texts as formulas. Its index stops at the first character that is not allowed: that is the fault. */
    private static final class Reader {
        /** A text of 24 characters begins at most 13 factors, the last of them behind its end. */
        private static final int FACTOR_LIMIT = TEXT_LIMIT / 2 + 1;

        private final int[] parts = new int[FACTOR_LIMIT * Formula.PARTS];
        private int factors;
        private int index;

        /** Returns the fault; NONE if there is none, and then the formula is there. */
        int read(Text text, Replica here) {
            factors = 0;
            index = 0;
            int sign = '+';
            for (int k = 0; k < FACTOR_LIMIT; k++) {
                if (!readFactor(text, here, sign)) {
                    return index;
                }
                if (index >= text.length()) {
                    return NONE;
                }
                sign = text.at(index);
                if (sign != '+' && sign != '-' && sign != '*') {
                    return index;
                }
                index++;
            }
            return index;
        }

        Formula formula() {
            return new Formula(Arrays.copyOf(parts, factors * Formula.PARTS));
        }

        private boolean readFactor(Text text, Replica here, int sign) {
            int c = text.at(index);
            if (isDigit(c)) {
                addFactor(sign, Formula.NUMBER_FACTOR, readNumber(text), 0);
                return true;
            }
            if (c == 'S') {
                return readSum(text, here, sign);
            }
            int name = readCell(text, here);
            if (name == NONE) {
                return false;
            }
            addFactor(sign, Formula.CELL_FACTOR, name, name);
            return true;
        }

        private boolean readSum(Text text, Replica here, int sign) {
            if (!readSign(text, 'S') || !readSign(text, '(')) {
                return false;
            }
            int first = readCell(text, here);
            if (first == NONE || !readSign(text, ':')) {
                return false;
            }
            int second = readCell(text, here);
            if (second == NONE || !readSign(text, ')')) {
                return false;
            }
            addFactor(sign, Formula.SUM_FACTOR, first, second);
            return true;
        }

        private boolean readSign(Text text, int sign) {
            if (text.at(index) != sign) {
                return false;
            }
            index++;
            return true;
        }

        private int readNumber(Text text) {
            int number = 0;
            for (int k = 0; k < DIGIT_LIMIT && isDigit(text.at(index)); k++) {
                number = number * 10 + text.at(index) - '0';
                index++;
            }
            return number;
        }

        /** Returns the cell's name; NONE if the character at the index is not allowed. */
        private int readCell(Text text, Replica here) {
            int column = here.columns.numberAt(text.at(index) - 'A');
            if (column == NONE) {
                return NONE;
            }
            index++;
            int digit = text.at(index);
            int row = isDigit(digit) ? here.rows.numberAt(digit - '1') : NONE;
            if (row == NONE) {
                return NONE;
            }
            index++;
            return row * LINES + column;
        }

        private void addFactor(int sign, int kind, int first, int second) {
            int at = factors * Formula.PARTS;
            if (at + Formula.PARTS > parts.length) {
                return;
            }
            parts[at] = sign;
            parts[at + 1] = kind;
            parts[at + 2] = first;
            parts[at + 3] = second;
            factors++;
        }

        private static boolean isDigit(int c) {
            return c >= '0' && c <= '9';
        }
    }

    /** A set of cells for each cell, and one more set, in bits. */
    private static final class CellSets {
        static final int EXTRA = CELLS;

        private static final int WORD = 64;
        private static final int WORDS = (CELLS + WORD - 1) / WORD;

        private final long[] bits = new long[(CELLS + 1) * WORDS];

        void empty() {
            Arrays.fill(bits, 0);
        }

        void copyFrom(CellSets other) {
            System.arraycopy(other.bits, 0, bits, 0, bits.length);
        }

        void put(int set, int cell) {
            if (isSet(set) && isCell(cell)) {
                bits[set * WORDS + cell / WORD] |= 1L << (cell % WORD);
            }
        }

        void drop(int set, int cell) {
            if (isSet(set) && isCell(cell)) {
                bits[set * WORDS + cell / WORD] &= ~(1L << (cell % WORD));
            }
        }

        boolean has(int set, int cell) {
            return isSet(set) && isCell(cell)
                    && (bits[set * WORDS + cell / WORD] & (1L << (cell % WORD))) != 0;
        }

        void join(int set, int other) {
            if (isSet(set) && isSet(other)) {
                for (int w = 0; w < WORDS; w++) {
                    bits[set * WORDS + w] |= bits[other * WORDS + w];
                }
            }
        }

        boolean haveCommon(int set, int other) {
            if (isSet(set) && isSet(other)) {
                for (int w = 0; w < WORDS; w++) {
                    if ((bits[set * WORDS + w] & bits[other * WORDS + w]) != 0) {
                        return true;
                    }
                }
            }
            return false;
        }

        int size(int set) {
            int size = 0;
            if (isSet(set)) {
                for (int w = 0; w < WORDS; w++) {
                    size += Long.bitCount(bits[set * WORDS + w]);
                }
            }
            return size;
        }

        private static boolean isSet(int set) {
            return set >= 0 && set <= EXTRA;
        }
    }

    /** The values of one replica. Cells are named by their positions throughout. */
    private static final class Calculation {
        private final int[] values = new int[CELLS];
        private final int[] errors = new int[CELLS];
        private final int[] formulaCells = new int[CELLS];
        private final Formula[] formulas = new Formula[CELLS];
        private int formulaCount;
        private final int[] ordered = new int[CELLS];
        private int orderedCount;
        private int cycleCount;
        /** For each cell those to which it refers; the extra set has the formulas that wait for calculation. */
        private final CellSets references = new CellSets();
        private final CellSets reached = new CellSets();
        private int problem;
        private boolean isUpToDate;

        void outdate() {
            isUpToDate = false;
        }

        /** Calculated only when it is asked for: many operations may come between two questions. */
        Calculation upToDate(Replica here) {
            if (!isUpToDate) {
                readCells(here);
                findReferences(here);
                findCycles();
                orderedCount = 0;
                calculateWaiting(here, true);
                endWaitOfCycles();
                calculateWaiting(here, false);
                isUpToDate = true;
            }
            return this;
        }

        int valueAt(int cell) {
            return isCell(cell) ? values[cell] : 0;
        }

        int errorAt(int cell) {
            return isCell(cell) ? errors[cell] : NO_ERROR;
        }

        int cycleCount() {
            return cycleCount;
        }

        int orderedCount() {
            return orderedCount;
        }

        int orderedAt(int k) {
            return k < 0 || k >= orderedCount ? NONE : ordered[k];
        }

        boolean isOnCycle(int cell) {
            return reached.has(cell, cell);
        }

        int countReferences(int cell) {
            return references.size(cell);
        }

        int countReferrers(int cell) {
            int count = 0;
            for (int f = 0; f < formulaCount; f++) {
                if (references.has(formulaCells[f], cell)) {
                    count++;
                }
            }
            return count;
        }

        private void readCells(Replica here) {
            formulaCount = 0;
            for (int row = 0; row < here.rows.count(); row++) {
                for (int column = 0; column < here.columns.count(); column++) {
                    int cell = row * LINES + column;
                    if (isCell(cell)) {
                        Content content = here.contentAt(cell);
                        values[cell] = content.number;
                        errors[cell] = NO_ERROR;
                        addFormula(cell, content.formula);
                    }
                }
            }
        }

        private void addFormula(int cell, Formula formula) {
            if (formula != null && formulaCount < CELLS) {
                formulaCells[formulaCount] = cell;
                formulas[formulaCount] = formula;
                formulaCount++;
            }
        }

        private void findReferences(Replica here) {
            references.empty();
            for (int f = 0; f < formulaCount; f++) {
                references.put(CellSets.EXTRA, formulaCells[f]);
                Formula formula = formulas[f];
                for (int k = 0; k < formula.factors(); k++) {
                    if (formula.kindOf(k) != Formula.NUMBER_FACTOR) {
                        int first = here.cellOf(formula.firstOf(k));
                        int second = here.cellOf(formula.secondOf(k));
                        addReferences(formulaCells[f], first, second);
                    }
                }
            }
        }

        /** A corner is named by the formula, so it is referred to even where the other one is not shown. */
        private void addReferences(int cell, int first, int second) {
            if (first != NONE && second != NONE) {
                addRectangle(cell, first, second);
            } else if (first != NONE) {
                references.put(cell, first);
            } else if (second != NONE) {
                references.put(cell, second);
            }
        }

        private void addRectangle(int cell, int first, int second) {
            int lastRow = Math.max(first / LINES, second / LINES);
            int lastColumn = Math.max(first % LINES, second % LINES);
            for (int row = Math.min(first / LINES, second / LINES); row <= lastRow; row++) {
                for (int column = Math.min(first % LINES, second % LINES); column <= lastColumn; column++) {
                    references.put(cell, row * LINES + column);
                }
            }
        }

        private void findCycles() {
            reached.copyFrom(references);
            for (int by = 0; by < formulaCount; by++) {
                for (int f = 0; f < formulaCount; f++) {
                    if (reached.has(formulaCells[f], formulaCells[by])) {
                        reached.join(formulaCells[f], formulaCells[by]);
                    }
                }
            }
        }

        private void endWaitOfCycles() {
            cycleCount = 0;
            for (int f = 0; f < formulaCount; f++) {
                int cell = formulaCells[f];
                if (isOnCycle(cell)) {
                    errors[cell] = ON_CYCLE;
                    cycleCount++;
                    references.drop(CellSets.EXTRA, cell);
                }
            }
        }

        /** The formulas are in the order of their positions, so the first that need not wait is the next. */
        private void calculateWaiting(Replica here, boolean inOrder) {
            for (int k = 0; k < formulaCount; k++) {
                int f = firstReady();
                if (f == NONE) {
                    return;
                }
                int cell = formulaCells[f];
                references.drop(CellSets.EXTRA, cell);
                calculateFormula(here, cell, formulas[f]);
                if (inOrder && orderedCount < CELLS) {
                    ordered[orderedCount] = cell;
                    orderedCount++;
                }
            }
        }

        private int firstReady() {
            for (int f = 0; f < formulaCount; f++) {
                int cell = formulaCells[f];
                if (references.has(CellSets.EXTRA, cell) && !references.haveCommon(cell, CellSets.EXTRA)) {
                    return f;
                }
            }
            return NONE;
        }

        private void calculateFormula(Replica here, int cell, Formula formula) {
            problem = NO_ERROR;
            long sum = 0;
            int k = 0;
            while (k < formula.factors() && problem == NO_ERROR) {
                boolean isMinus = formula.signOf(k) == '-';
                long term = factorOf(here, formula, k);
                k++;
                while (k < formula.factors() && problem == NO_ERROR && formula.signOf(k) == '*') {
                    term = limited(term * factorOf(here, formula, k));
                    k++;
                }
                sum = limited(isMinus ? sum - term : sum + term);
            }
            errors[cell] = problem;
            values[cell] = problem == NO_ERROR ? (int) sum : 0;
        }

        /** Where there is a problem, 0 goes on in place of a value, so that the first problem stays. */
        private long factorOf(Replica here, Formula formula, int k) {
            if (formula.kindOf(k) == Formula.NUMBER_FACTOR) {
                return formula.firstOf(k);
            }
            int first = here.cellOf(formula.firstOf(k));
            int second = here.cellOf(formula.secondOf(k));
            if (first == NONE || second == NONE) {
                problem = NOT_SHOWN;
                return 0;
            }
            return sumOf(first, second);
        }

        private long sumOf(int first, int second) {
            long sum = 0;
            int lastRow = Math.max(first / LINES, second / LINES);
            int lastColumn = Math.max(first % LINES, second % LINES);
            for (int row = Math.min(first / LINES, second / LINES); row <= lastRow; row++) {
                for (int column = Math.min(first % LINES, second % LINES); column <= lastColumn; column++) {
                    problem = errors[row * LINES + column];
                    if (problem == NO_ERROR) {
                        sum = limited(sum + values[row * LINES + column]);
                    }
                    if (problem != NO_ERROR) {
                        return 0;
                    }
                }
            }
            return sum;
        }

        private long limited(long number) {
            if (number < -VALUE_LIMIT || number > VALUE_LIMIT) {
                problem = TOO_LARGE;
                return 0;
            }
            return number;
        }
    }
}
