import java.util.ArrayList;
import java.util.Comparator;
import java.util.LinkedHashSet;
import java.util.List;
import java.util.Random;
import java.util.Set;
import java.util.TreeSet;
import java.util.function.LongSupplier;

/**
 * Random runs of calls on SharedSheet and on a model of it that follows the document's words as directly as it can:
 * it copies whole states for undo, reads formulas by recursive descent, calculates by recursion, and keeps nothing
 * that it could find out anew. Every answer and every exception must be the same.
 */
public final class ModelTest {
    private static final int NONE = -1;
    private static final int RUNS = 500;
    private static final int CALLS = 512;

    private static final int MOVING = 1;
    private static final int RECEIVING = 2;
    private static final int REPEATING = 3;
    private static final int WIDE = 4;
    private static final int LARGE = 5;
    private static final int REMOVING = 6;
    private static final int SUMMING = 7;
    private static final int STYLES = 8;

    // ---- the model

    private static final class Op {
        int number, clock, replica, line, place, row, column;
        boolean columns;
        Object content;
    }

    private static final class Line {
        int number, place = NONE, clock = -1, replica;
        boolean made, removed;
    }

    private static final class Cell {
        int clock = -1, replica = -1;
        Object content;
    }

    private static final class State {
        int clock;
        Line[][] lines = new Line[2][12];
        Cell[][] cells = new Cell[12][12];
        int[] received = new int[3];
        int[] made = new int[2];
        List<Op> log = new ArrayList<>();

        State() {
            for (int kind = 0; kind < 2; kind++) {
                for (int n = 0; n < 12; n++) {
                    Line line = new Line();
                    line.number = n;
                    if (n < 3) {
                        line.made = true;
                        line.place = 1000 * (n + 1);
                        line.clock = 0;
                    }
                    lines[kind][n] = line;
                }
            }
            for (int r = 0; r < 12; r++) {
                for (int c = 0; c < 12; c++) {
                    cells[r][c] = new Cell();
                }
            }
        }

        State copy() {
            State s = new State();
            s.clock = clock;
            s.received = received.clone();
            s.made = made.clone();
            s.log = new ArrayList<>(log);
            for (int kind = 0; kind < 2; kind++) {
                for (int n = 0; n < 12; n++) {
                    Line from = lines[kind][n];
                    Line to = s.lines[kind][n];
                    to.place = from.place;
                    to.clock = from.clock;
                    to.replica = from.replica;
                    to.made = from.made;
                    to.removed = from.removed;
                }
            }
            for (int r = 0; r < 12; r++) {
                for (int c = 0; c < 12; c++) {
                    s.cells[r][c].clock = cells[r][c].clock;
                    s.cells[r][c].replica = cells[r][c].replica;
                    s.cells[r][c].content = cells[r][c].content;
                }
            }
            return s;
        }

        List<Line> shown(boolean columns) {
            List<Line> list = new ArrayList<>();
            for (Line line : lines[columns ? 1 : 0]) {
                if (line.made && !line.removed) {
                    list.add(line);
                }
            }
            list.sort(Comparator.<Line>comparingInt(l -> l.place).thenComparingInt(l -> l.number));
            return list;
        }

        int position(boolean columns, int number) {
            List<Line> list = shown(columns);
            for (int p = 0; p < list.size(); p++) {
                if (list.get(p).number == number) {
                    return p;
                }
            }
            return NONE;
        }
    }

    private static final class Ref {
        final int row, column;

        Ref(int row, int column) {
            this.row = row;
            this.column = column;
        }
    }

    /** A factor is an Integer, a Ref or a Ref[2]; a term a list of factors; a formula terms with their signs. */
    private static final class Tree {
        final List<List<Object>> terms = new ArrayList<>();
        final List<Character> signs = new ArrayList<>();
    }

    private static final class Fault extends RuntimeException {
        private static final long serialVersionUID = 1;
        final int index;

        Fault(int index) {
            this.index = index;
        }
    }

    private static final class Parser {
        final String text;
        final State state;
        int i = 0;

        Parser(String text, State state) {
            this.text = text;
            this.state = state;
        }

        boolean next(char c) {
            return i < text.length() && text.charAt(i) == c;
        }

        boolean digit() {
            return i < text.length() && Character.isDigit(text.charAt(i));
        }

        void want(char c) {
            if (!next(c)) {
                throw new Fault(i);
            }
            i++;
        }

        Tree formula() {
            Tree tree = new Tree();
            tree.signs.add('+');
            tree.terms.add(term());
            while (next('+') || next('-')) {
                tree.signs.add(text.charAt(i++));
                tree.terms.add(term());
            }
            if (i < text.length()) {
                throw new Fault(i);
            }
            return tree;
        }

        List<Object> term() {
            List<Object> factors = new ArrayList<>();
            factors.add(factor());
            while (next('*')) {
                i++;
                factors.add(factor());
            }
            return factors;
        }

        Object factor() {
            if (digit()) {
                int start = i;
                while (digit() && i - start < 4) {
                    i++;
                }
                return Integer.valueOf(text.substring(start, i));
            }
            if (next('S')) {
                i++;
                want('(');
                Ref a = ref();
                want(':');
                Ref b = ref();
                want(')');
                return new Ref[] {a, b};
            }
            return ref();
        }

        Ref ref() {
            if (i >= text.length()) {
                throw new Fault(i);
            }
            int column = "ABCDEFGHIJKL".indexOf(text.charAt(i));
            if (column < 0 || column >= state.shown(true).size()) {
                throw new Fault(i);
            }
            i++;
            if (i >= text.length()) {
                throw new Fault(i);
            }
            int row = "123456789".indexOf(text.charAt(i));
            if (row < 0 || row >= state.shown(false).size()) {
                throw new Fault(i);
            }
            i++;
            return new Ref(state.shown(false).get(row).number, state.shown(true).get(column).number);
        }
    }

    /** Everything about the values of a state, by positions. */
    private static final class Sums {
        final State s;
        final int rows, columns;
        final Tree[][] trees = new Tree[12][12];
        final List<Set<Integer>> refs = new ArrayList<>();
        final boolean[] cyclic = new boolean[144];
        final Integer[] errors = new Integer[144];
        final int[] values = new int[144];
        final List<Integer> order = new ArrayList<>();

        Sums(State s) {
            this.s = s;
            rows = s.shown(false).size();
            columns = s.shown(true).size();
            for (int i = 0; i < 144; i++) {
                refs.add(new TreeSet<>());
            }
            for (int r = 0; r < rows; r++) {
                for (int c = 0; c < columns; c++) {
                    if (content(r, c) instanceof Tree) {
                        trees[r][c] = (Tree) content(r, c);
                        refs.set(r * 12 + c, refsOf(trees[r][c]));
                    }
                }
            }
            for (int i = 0; i < 144; i++) {
                cyclic[i] = reaches(i, i);
            }
            for (int r = 0; r < rows; r++) {
                for (int c = 0; c < columns; c++) {
                    calculate(r * 12 + c);
                }
            }
            findOrder();
        }

        Object content(int r, int c) {
            return s.cells[s.shown(false).get(r).number][s.shown(true).get(c).number].content;
        }

        boolean isTree(int i) {
            return trees[i / 12][i % 12] != null;
        }

        int at(Ref ref) {
            int r = s.position(false, ref.row);
            int c = s.position(true, ref.column);
            return r == NONE || c == NONE ? NONE : r * 12 + c;
        }

        List<Integer> rectangle(Ref[] corners) {
            int a = at(corners[0]);
            int b = at(corners[1]);
            if (a == NONE || b == NONE) {
                return null;
            }
            List<Integer> list = new ArrayList<>();
            for (int r = 0; r < 12; r++) {
                for (int c = 0; c < 12; c++) {
                    boolean rowIn = r >= a / 12 && r <= b / 12 || r >= b / 12 && r <= a / 12;
                    boolean columnIn = c >= a % 12 && c <= b % 12 || c >= b % 12 && c <= a % 12;
                    if (rowIn && columnIn) {
                        list.add(r * 12 + c);
                    }
                }
            }
            return list;
        }

        void addNamed(Set<Integer> set, Ref ref) {
            if (at(ref) != NONE) {
                set.add(at(ref));
            }
        }

        Set<Integer> refsOf(Tree tree) {
            Set<Integer> set = new LinkedHashSet<>();
            for (List<Object> term : tree.terms) {
                for (Object factor : term) {
                    if (factor instanceof Ref) {
                        addNamed(set, (Ref) factor);
                    } else if (factor instanceof Ref[]) {
                        addNamed(set, ((Ref[]) factor)[0]);
                        addNamed(set, ((Ref[]) factor)[1]);
                        List<Integer> list = rectangle((Ref[]) factor);
                        if (list != null) {
                            set.addAll(list);
                        }
                    }
                }
            }
            return set;
        }

        boolean reaches(int from, int to) {
            Set<Integer> seen = new TreeSet<>();
            List<Integer> todo = new ArrayList<>(refs.get(from));
            while (!todo.isEmpty()) {
                int i = todo.remove(todo.size() - 1);
                if (i == to) {
                    return true;
                }
                if (seen.add(i)) {
                    todo.addAll(refs.get(i));
                }
            }
            return false;
        }

        void calculate(int i) {
            if (errors[i] != null) {
                return;
            }
            errors[i] = 0;
            if (cyclic[i]) {
                errors[i] = 1;
            } else if (isTree(i)) {
                try {
                    values[i] = (int) formula(trees[i / 12][i % 12]);
                } catch (Fault f) {
                    errors[i] = f.index;
                }
            } else if (content(i / 12, i % 12) != null) {
                values[i] = (Integer) content(i / 12, i % 12);
            }
        }

        long limit(long v) {
            if (Math.abs(v) > 1000000000L) {
                throw new Fault(3);
            }
            return v;
        }

        long read(int i) {
            if (i == NONE) {
                throw new Fault(2);
            }
            calculate(i);
            if (errors[i] != 0) {
                throw new Fault(errors[i]);
            }
            return values[i];
        }

        long formula(Tree tree) {
            long sum = 0;
            for (int t = 0; t < tree.terms.size(); t++) {
                long term = 1;
                for (Object factor : tree.terms.get(t)) {
                    long f = factor(factor);
                    term = limit(term * f);
                }
                sum = limit(tree.signs.get(t) == '-' ? sum - term : sum + term);
            }
            return sum;
        }

        long factor(Object factor) {
            if (factor instanceof Integer) {
                return (Integer) factor;
            }
            if (factor instanceof Ref) {
                return read(at((Ref) factor));
            }
            List<Integer> list = rectangle((Ref[]) factor);
            if (list == null) {
                throw new Fault(2);
            }
            long sum = 0;
            for (int i : list) {
                sum = limit(sum + read(i));
            }
            return sum;
        }

        boolean mayBeOrdered(int i) {
            if (!isTree(i) || cyclic[i]) {
                return false;
            }
            for (int j = 0; j < 144; j++) {
                if (cyclic[j] && reaches(i, j)) {
                    return false;
                }
            }
            return true;
        }

        void findOrder() {
            List<Integer> left = new ArrayList<>();
            for (int i = 0; i < 144; i++) {
                if (mayBeOrdered(i)) {
                    left.add(i);
                }
            }
            Set<Integer> in = new TreeSet<>();
            while (!left.isEmpty()) {
                for (int i : left) {
                    boolean ready = true;
                    for (int j : refs.get(i)) {
                        ready &= !isTree(j) || in.contains(j);
                    }
                    if (ready) {
                        order.add(i);
                        in.add(i);
                        left.remove(Integer.valueOf(i));
                        break;
                    }
                }
            }
        }

        int cycles() {
            int n = 0;
            for (boolean b : cyclic) {
                n += b ? 1 : 0;
            }
            return n;
        }
    }

    private static final class Model {
        State[] s = {new State(), new State(), new State()};
        String text = "";
        final List<State[]> records = new ArrayList<>();

        static void index(boolean ok) {
            if (!ok) {
                throw new IndexOutOfBoundsException();
            }
        }

        static void argument(boolean ok) {
            if (!ok) {
                throw new IllegalArgumentException();
            }
        }

        static void state(boolean ok) {
            if (!ok) {
                throw new IllegalStateException();
            }
        }

        State at(int replica) {
            index(replica >= 0 && replica < 3);
            return s[replica];
        }

        void record() {
            records.add(new State[] {s[0].copy(), s[1].copy(), s[2].copy()});
            if (records.size() > 4) {
                records.remove(0);
            }
        }

        static boolean later(Op op, int clock, int replica) {
            return op.clock != clock ? op.clock > clock : op.replica > replica;
        }

        static void carryOut(State here, Op op) {
            if (op.number == 4) {
                Cell cell = here.cells[op.row][op.column];
                if (later(op, cell.clock, cell.replica)) {
                    cell.clock = op.clock;
                    cell.replica = op.replica;
                    cell.content = op.content;
                }
                return;
            }
            Line line = here.lines[op.columns ? 1 : 0][op.line];
            if (op.number == 3) {
                line.removed = true;
                return;
            }
            if (op.number == 1) {
                line.made = true;
            }
            if (later(op, line.clock, line.replica)) {
                line.place = op.place;
                line.clock = op.clock;
                line.replica = op.replica;
            }
        }

        void perform(int replica, Op op) {
            record();
            State here = s[replica];
            here.clock++;
            op.clock = here.clock;
            op.replica = replica;
            here.log.add(op);
            carryOut(here, op);
        }

        static int between(List<Line> others, int p) {
            int low = p == 0 ? 0 : others.get(p - 1).place;
            int high = p == others.size() ? low + 2000 : others.get(p).place;
            int place = (low + high) / 2;
            state(place > low);
            return place;
        }

        int make(int replica, boolean columns, int position) {
            State here = at(replica);
            List<Line> list = here.shown(columns);
            index(position >= 0 && position <= list.size());
            int kind = columns ? 1 : 0;
            state(here.made[kind] < 3);
            Op op = new Op();
            op.number = 1;
            op.columns = columns;
            op.place = between(list, position);
            op.line = 3 + 3 * replica + here.made[kind];
            state(here.log.size() < 40);
            perform(replica, op);
            here.made[kind]++;
            return op.line;
        }

        int move(int replica, boolean columns, int from, int to) {
            State here = at(replica);
            List<Line> list = here.shown(columns);
            index(from >= 0 && from < list.size());
            Line line = list.remove(from);
            index(to >= 0 && to <= list.size());
            Op op = new Op();
            op.number = 2;
            op.columns = columns;
            op.line = line.number;
            op.place = between(list, to);
            state(here.log.size() < 40);
            perform(replica, op);
            return here.position(columns, line.number);
        }

        int remove(int replica, boolean columns, int position) {
            State here = at(replica);
            List<Line> list = here.shown(columns);
            index(position >= 0 && position < list.size());
            state(here.log.size() < 40);
            Op op = new Op();
            op.number = 3;
            op.columns = columns;
            op.line = list.get(position).number;
            op.place = NONE;
            perform(replica, op);
            return here.shown(columns).size();
        }

        int line(int replica, boolean columns, int position) {
            List<Line> list = at(replica).shown(columns);
            return position < 0 || position >= list.size() ? NONE : list.get(position).number;
        }

        int position(int replica, boolean columns, int number) {
            State here = at(replica);
            argument(number >= 0 && number < 12);
            return here.position(columns, number);
        }

        int place(int replica, boolean columns, int number) {
            State here = at(replica);
            argument(number >= 0 && number < 12);
            return here.lines[columns ? 1 : 0][number].place;
        }

        Cell cellAt(State here, int row, int column) {
            List<Line> rows = here.shown(false);
            List<Line> columns = here.shown(true);
            index(row >= 0 && row < rows.size() && column >= 0 && column < columns.size());
            return here.cells[rows.get(row).number][columns.get(column).number];
        }

        int put(int replica, int row, int column, Object content) {
            State here = s[replica];
            state(here.log.size() < 40);
            Op op = new Op();
            op.number = 4;
            op.row = here.shown(false).get(row).number;
            op.column = here.shown(true).get(column).number;
            op.content = content;
            perform(replica, op);
            return here.clock;
        }

        int setNumber(int replica, int row, int column, int number) {
            cellAt(at(replica), row, column);
            argument(number >= -9999 && number <= 9999);
            return put(replica, row, column, number);
        }

        int clearCell(int replica, int row, int column) {
            cellAt(at(replica), row, column);
            return put(replica, row, column, null);
        }

        int setFormula(int replica, int row, int column) {
            cellAt(at(replica), row, column);
            argument(fault(replica) == NONE);
            return put(replica, row, column, new Parser(text, s[replica]).formula());
        }

        int cell(int replica, int row, int column, int what) {
            State here = at(replica);
            Cell cell = cellAt(here, row, column);
            argument(what >= 0 && what <= 6);
            int i = row * 12 + column;
            if (what == 0) {
                return cell.content == null ? 0 : cell.content instanceof Integer ? 1 : 2;
            } else if (what == 1) {
                return cell.clock;
            } else if (what == 2) {
                return cell.replica;
            } else if (what == 3) {
                return cell.content instanceof Integer ? (Integer) cell.content : 0;
            } else if (what == 4) {
                return new Sums(here).refs.get(i).size();
            } else if (what == 5) {
                int n = 0;
                for (Set<Integer> set : new Sums(here).refs) {
                    n += set.contains(i) ? 1 : 0;
                }
                return n;
            }
            return new Sums(here).cyclic[i] ? 1 : 0;
        }

        int value(int replica, int row, int column) {
            State here = at(replica);
            cellAt(here, row, column);
            return new Sums(here).values[row * 12 + column];
        }

        int error(int replica, int row, int column) {
            State here = at(replica);
            cellAt(here, row, column);
            return new Sums(here).errors[row * 12 + column];
        }

        static String written(State here, Ref ref) {
            int r = here.position(false, ref.row);
            int c = here.position(true, ref.column);
            return r == NONE || c == NONE || r > 8 ? "#" : "" + "ABCDEFGHIJKL".charAt(c) + (r + 1);
        }

        int write(int replica, int row, int column) {
            State here = at(replica);
            Object content = cellAt(here, row, column).content;
            state(content instanceof Tree);
            Tree tree = (Tree) content;
            StringBuilder b = new StringBuilder();
            for (int t = 0; t < tree.terms.size(); t++) {
                if (t > 0) {
                    b.append(tree.signs.get(t));
                }
                List<String> factors = new ArrayList<>();
                for (Object f : tree.terms.get(t)) {
                    if (f instanceof Ref[]) {
                        Ref[] corners = (Ref[]) f;
                        factors.add("S(" + written(here, corners[0]) + ":" + written(here, corners[1]) + ")");
                    } else {
                        factors.add(f instanceof Ref ? written(here, (Ref) f) : f.toString());
                    }
                }
                b.append(String.join("*", factors));
            }
            text = b.toString();
            return text.length();
        }

        int order(int replica, int k) {
            List<Integer> order = new Sums(at(replica)).order;
            return k < 0 || k >= order.size() ? NONE : order.get(k) / 12 * 100 + order.get(k) % 12;
        }

        int take(int replica, int from, int count) {
            int n = 0;
            while (n < count && missing(replica, from) > 0) {
                Op op = s[from].log.get(s[replica].received[from]++);
                s[replica].clock = Math.max(s[replica].clock, op.clock);
                carryOut(s[replica], op);
                n++;
            }
            return n;
        }

        int receive(int replica, int from, int count) {
            at(replica);
            at(from);
            argument(replica != from && count >= 1 && count <= 40);
            record();
            return take(replica, from, count);
        }

        int settle() {
            record();
            int n = 0;
            for (int r = 0; r < 3; r++) {
                for (int f = 0; f < 3; f++) {
                    n += r == f ? 0 : take(r, f, 1000);
                }
            }
            return n;
        }

        int missing(int replica, int from) {
            at(replica);
            at(from);
            argument(replica != from);
            return s[from].log.size() - s[replica].received[from];
        }

        int operation(int replica, int k, int what) {
            State here = at(replica);
            argument(what >= 0 && what <= 4);
            if (k < 0 || k >= here.log.size()) {
                return NONE;
            }
            Op op = here.log.get(k);
            boolean isWrite = op.number == 4;
            int[] all = {op.number, op.clock, isWrite ? NONE : op.columns ? 1 : 0, isWrite ? op.row : op.line,
                isWrite ? op.column : op.place};
            return all[what];
        }

        boolean areAlike(int one, int other) {
            State a = at(one);
            State b = at(other);
            for (int kind = 0; kind < 2; kind++) {
                List<Integer> left = new ArrayList<>();
                List<Integer> right = new ArrayList<>();
                a.shown(kind == 1).forEach(l -> left.add(l.number));
                b.shown(kind == 1).forEach(l -> right.add(l.number));
                if (!left.equals(right)) {
                    return false;
                }
            }
            Sums x = new Sums(a);
            Sums y = new Sums(b);
            for (int r = 0; r < x.rows; r++) {
                for (int c = 0; c < x.columns; c++) {
                    int i = r * 12 + c;
                    if (cell(one, r, c, 0) != cell(other, r, c, 0) || cell(one, r, c, 3) != cell(other, r, c, 3)
                            || x.values[i] != y.values[i] || !x.errors[i].equals(y.errors[i])) {
                        return false;
                    }
                }
            }
            return true;
        }

        int different(int one, int other) {
            State a = at(one);
            State b = at(other);
            int n = 0;
            for (int r = 0; r < 12; r++) {
                for (int c = 0; c < 12; c++) {
                    Cell x = a.cells[r][c];
                    Cell y = b.cells[r][c];
                    n += x.clock != y.clock || x.replica != y.replica ? 1 : 0;
                }
            }
            return n;
        }

        int type(int c) {
            argument(c >= 32 && c <= 126);
            state(text.length() < 24);
            text += (char) c;
            return text.length();
        }

        int clearText() {
            int n = text.length();
            text = "";
            return n;
        }

        int fault(int replica) {
            try {
                new Parser(text, at(replica)).formula();
                return NONE;
            } catch (Fault f) {
                return f.index;
            }
        }

        int undo() {
            state(!records.isEmpty());
            s = records.remove(records.size() - 1);
            return records.size();
        }

        long checksum() {
            List<Long> v = new ArrayList<>();
            for (int r = 0; r < 3; r++) {
                v.add((long) s[r].clock);
                v.add((long) s[r].log.size());
                for (int f = 0; f < 3; f++) {
                    if (f != r) {
                        v.add((long) missing(r, f));
                    }
                }
                for (boolean columns : new boolean[] {false, true}) {
                    v.add((long) s[r].shown(columns).size());
                    for (Line line : s[r].shown(columns)) {
                        v.add((long) line.number);
                        v.add((long) line.place);
                    }
                }
                Sums sums = new Sums(s[r]);
                for (int row = 0; row < sums.rows; row++) {
                    for (int column = 0; column < sums.columns; column++) {
                        for (int what = 0; what < 4; what++) {
                            v.add((long) cell(r, row, column, what));
                        }
                        v.add((long) sums.values[row * 12 + column]);
                        v.add((long) sums.errors[row * 12 + column]);
                    }
                }
                v.add((long) sums.cycles());
                for (int i : sums.order) {
                    v.add((long) (i / 12 * 100 + i % 12));
                }
            }
            v.add((long) text.length());
            v.add((long) records.size());
            long h = 18539;
            for (long x : v) {
                h = 31 * h + x;
            }
            return h;
        }
    }

    // ---- the runs

    private final Random random;
    private final SharedSheet sheet = new SharedSheet();
    private final Model model = new Model();
    private final List<String> told = new ArrayList<>();
    private final int style;
    private int calls = 0;
    private boolean wrong = false;

    private ModelTest(long seed) {
        random = new Random(seed);
        style = (int) Math.floorMod(seed, (long) STYLES);
    }

    private boolean hasLargeNumbers() {
        return style == LARGE || style == SUMMING;
    }

    /** Where lines are removed, one corner of S( : ) is then often not shown. */
    private boolean hasManySums() {
        return style == REMOVING || style == SUMMING;
    }

    private static Object answer(LongSupplier call) {
        try {
            return call.getAsLong();
        } catch (RuntimeException e) {
            return e.getClass().getName();
        }
    }

    private void same(String call, LongSupplier ofSheet, LongSupplier ofModel) {
        if (wrong || calls >= CALLS) {
            return;
        }
        calls++;
        Object want = answer(ofModel);
        Object got = answer(ofSheet);
        told.add(call + " -> " + got);
        if (!want.equals(got)) {
            wrong = true;
            told.add("due is " + want);
        }
    }

    private int replica() {
        return random.nextInt(60) == 0 ? random.nextInt(5) - 1 : random.nextInt(3);
    }

    private int position(int replica, boolean columns) {
        int n = replica < 0 || replica > 2 ? 3 : model.s[replica].shown(columns).size();
        return random.nextInt(30) == 0 ? random.nextInt(n + 4) - 2 : random.nextInt(Math.max(1, n));
    }

    private void lines() {
        int r = replica();
        boolean col = random.nextBoolean();
        int p = position(r, col);
        int q = position(r, col);
        int n = random.nextInt(40) == 0 ? random.nextInt(20) - 4 : random.nextInt(12);
        switch (random.nextInt(style == MOVING ? 12 : 9)) {
            case 0:
            case 9:
                int end = p + random.nextInt(2);
                same("make(" + r + ", " + col + ", " + end + ")", () -> sheet.make(r, col, end),
                        () -> model.make(r, col, end));
                break;
            case 1:
            case 2:
            case 10:
                same("move(" + r + ", " + col + ", " + p + ", " + q + ")", () -> sheet.move(r, col, p, q),
                        () -> model.move(r, col, p, q));
                break;
            case 3:
                if (style == REMOVING || random.nextInt(3) == 0) {
                    same("remove(" + r + ", " + col + ", " + p + ")", () -> sheet.remove(r, col, p),
                            () -> model.remove(r, col, p));
                }
                break;
            case 4:
                same("shown(" + r + ", " + col + ")", () -> sheet.shown(r, col),
                        () -> model.at(r).shown(col).size());
                break;
            case 5:
                same("line(" + r + ", " + col + ", " + p + ")", () -> sheet.line(r, col, p),
                        () -> model.line(r, col, p));
                break;
            case 6:
                same("position(" + r + ", " + col + ", " + n + ")", () -> sheet.position(r, col, n),
                        () -> model.position(r, col, n));
                break;
            default:
                same("place(" + r + ", " + col + ", " + n + ")", () -> sheet.place(r, col, n),
                        () -> model.place(r, col, n));
        }
    }

    private void writes() {
        int r = replica();
        int row = position(r, false);
        int column = position(r, true);
        String at = r + ", " + row + ", " + column;
        int usual = random.nextInt(hasLargeNumbers() ? 2 : 4) == 0 ? (random.nextBoolean() ? 9999 : -9999)
                : random.nextInt(21) - 10;
        int n = random.nextInt(25) == 0 ? random.nextInt(20200) - 10100 : usual;
        switch (random.nextInt(6)) {
            case 0:
            case 1:
                same("setNumber(" + at + ", " + n + ")", () -> sheet.setNumber(r, row, column, n),
                        () -> model.setNumber(r, row, column, n));
                break;
            case 2:
                same("clearCell(" + at + ")", () -> sheet.clearCell(r, row, column),
                        () -> model.clearCell(r, row, column));
                break;
            default:
                same("setFormula(" + at + ")", () -> sheet.setFormula(r, row, column),
                        () -> model.setFormula(r, row, column));
        }
    }

    private void cells() {
        int r = replica();
        int row = position(r, false);
        int column = position(r, true);
        String at = r + ", " + row + ", " + column;
        int what = random.nextInt(30) == 0 ? random.nextInt(12) - 3 : random.nextInt(7);
        int k = random.nextInt(8) - 1;
        switch (random.nextInt(6)) {
            case 0:
                same("cell(" + at + ", " + what + ")", () -> sheet.cell(r, row, column, what),
                        () -> model.cell(r, row, column, what));
                break;
            case 1:
                same("value(" + at + ")", () -> sheet.value(r, row, column), () -> model.value(r, row, column));
                break;
            case 2:
                same("error(" + at + ")", () -> sheet.error(r, row, column), () -> model.error(r, row, column));
                break;
            case 3:
                same("write(" + at + ")", () -> sheet.write(r, row, column), () -> model.write(r, row, column));
                break;
            case 4:
                same("cycles(" + r + ")", () -> sheet.cycles(r), () -> new Sums(model.at(r)).cycles());
                break;
            default:
                same("order(" + r + ", " + k + ")", () -> sheet.order(r, k), () -> model.order(r, k));
        }
    }

    private void operations() {
        int r = replica();
        int f = random.nextInt(3) == 0 ? replica() : (r + 1 + random.nextInt(2)) % 3;
        int count = random.nextInt(30) == 0 ? random.nextInt(60) - 10 : 1 + random.nextInt(style == RECEIVING ? 40 : 4);
        int what = random.nextInt(30) == 0 ? random.nextInt(9) - 2 : random.nextInt(5);
        int k = random.nextInt(16) - 1;
        switch (random.nextInt(9)) {
            case 0:
            case 1:
            case 2:
                same("receive(" + r + ", " + f + ", " + count + ")", () -> sheet.receive(r, f, count),
                        () -> model.receive(r, f, count));
                break;
            case 3:
                same("settle()", () -> sheet.settle(), () -> model.settle());
                break;
            case 4:
                same("missing(" + r + ", " + f + ")", () -> sheet.missing(r, f), () -> model.missing(r, f));
                break;
            case 5:
                same("clock(" + r + ")", () -> sheet.clock(r), () -> model.at(r).clock);
                break;
            case 6:
                same("operation(" + r + ", " + k + ", " + what + ")", () -> sheet.operation(r, k, what),
                        () -> model.operation(r, k, what));
                break;
            case 7:
                same("areAlike(" + r + ", " + f + ")", () -> sheet.areAlike(r, f) ? 1 : 0,
                        () -> model.areAlike(r, f) ? 1 : 0);
                break;
            default:
                same("different(" + r + ", " + f + ")", () -> sheet.different(r, f), () -> model.different(r, f));
        }
    }

    /** All lines that there can be, so that rows stand above position 8. */
    private void makeAllLines() {
        for (int k = 0; k < 18; k++) {
            int r = k % 3;
            boolean col = k >= 9;
            int p = random.nextInt(4);
            same("make(" + r + ", " + col + ", " + p + ")", () -> sheet.make(r, col, p),
                    () -> model.make(r, col, p));
        }
        same("settle()", () -> sheet.settle(), () -> model.settle());
    }

    private void fillWithLargeNumbers() {
        for (int k = 0; k < 9; k++) {
            int row = k / 3;
            int column = k % 3;
            int n = random.nextBoolean() ? 9999 : random.nextInt(19999) - 9999;
            same("setNumber(0, " + row + ", " + column + ", " + n + ")", () -> sheet.setNumber(0, row, column, n),
                    () -> model.setNumber(0, row, column, n));
        }
        for (String text : new String[] {"1000*1000*1000", "0-1000*1000*1000", "9999*9999*10"}) {
            same("clearText()", () -> sheet.clearText(), () -> model.clearText());
            typeAll(text);
            int row = random.nextInt(3);
            int column = random.nextInt(3);
            same("setFormula(0, " + row + ", " + column + ")", () -> sheet.setFormula(0, row, column),
                    () -> model.setFormula(0, row, column));
        }
        same("settle()", () -> sheet.settle(), () -> model.settle());
    }

    private void typeAll(String text) {
        for (int i = 0; i < text.length(); i++) {
            int c = random.nextInt(300) == 0 ? random.nextInt(200) - 30 : text.charAt(i);
            same("type(" + c + ")", () -> sheet.type(c), () -> model.type(c));
        }
    }

    private String aCell() {
        int most = style == WIDE ? 12 : 3 + random.nextInt(4);
        return "" + (char) ('A' + random.nextInt(most)) + (1 + random.nextInt(Math.min(9, most)));
    }

    private String aFactor() {
        switch (hasManySums() && random.nextBoolean() ? 1 : random.nextInt(6)) {
            case 0:
                return "" + (hasLargeNumbers() ? 9999 : random.nextInt(random.nextBoolean() ? 10 : 10000));
            case 1:
                return "S(" + aCell() + ":" + aCell() + ")";
            case 2:
                return random.nextInt(4) == 0 ? "0" + random.nextInt(100) : aCell();
            default:
                return aCell();
        }
    }

    private void texts() {
        StringBuilder b = new StringBuilder(aFactor());
        String signs = hasLargeNumbers() ? "+-****" : "+-*";
        while (random.nextInt(hasLargeNumbers() ? 3 : 5) < 2) {
            b.append(signs.charAt(random.nextInt(signs.length())));
            b.append(aFactor());
        }
        if (random.nextInt(8) == 0) {
            b.insert(random.nextInt(b.length() + 1), (char) (32 + random.nextInt(95)));
        }
        if (random.nextInt(8) == 0) {
            b.insert(random.nextInt(b.length() + 1), "AS(:)#0159+*LM".charAt(random.nextInt(14)));
        }
        if (random.nextInt(12) == 0) {
            b.deleteCharAt(random.nextInt(b.length()));
        }
        if (random.nextInt(10) != 0) {
            same("clearText()", () -> sheet.clearText(), () -> model.clearText());
        }
        typeAll(b.toString());
        int r = replica();
        same("fault(" + r + ")", () -> sheet.fault(r), () -> model.fault(r));
        int times = 1 + random.nextInt(style == REPEATING ? 12 : 4);
        for (int k = 0; k < times; k++) {
            int s = random.nextInt(3);
            int row = position(s, false);
            int column = position(s, true);
            same("setFormula(" + s + ", " + row + ", " + column + ")", () -> sheet.setFormula(s, row, column),
                    () -> model.setFormula(s, row, column));
        }
        int index = random.nextInt(28) - 2;
        same("character(" + index + ")", () -> sheet.character(index),
                () -> index < 0 || index >= model.text.length() ? NONE : model.text.charAt(index));
    }

    private boolean run() {
        if (style == WIDE) {
            makeAllLines();
        } else if (hasLargeNumbers()) {
            fillWithLargeNumbers();
        }
        while (calls < CALLS && !wrong) {
            int kind = random.nextInt(20);
            if (kind < (style == MOVING ? 9 : 4)) {
                lines();
            } else if (kind < 10) {
                writes();
            } else if (kind < 14) {
                cells();
            } else if (kind < 17) {
                operations();
            } else if (kind < 18) {
                texts();
            } else if (random.nextInt(3) == 0) {
                same("undo()", () -> sheet.undo(), () -> model.undo());
            } else {
                same("checksum()", () -> sheet.checksum(), () -> model.checksum());
            }
        }
        return !wrong;
    }

    public static void main(String[] args) {
        int first = args.length > 0 ? Integer.parseInt(args[0]) : 0;
        int runs = args.length > 1 ? Integer.parseInt(args[1]) : RUNS;
        int failed = 0;
        for (int seed = first; seed < first + runs && failed < 3; seed++) {
            ModelTest test = new ModelTest(seed);
            if (!test.run()) {
                failed++;
                System.out.println("run " + seed + " goes wrong at its last call:");
                test.told.subList(Math.max(0, test.told.size() - 40), test.told.size())
                        .forEach(line -> System.out.println("  " + line));
            }
        }
        System.out.println(failed == 0 ? runs + " random runs as the model" : failed + " runs wrong");
        if (failed != 0) {
            System.exit(1);
        }
    }
}
