import java.io.IOException;
import java.lang.management.ManagementFactory;
import java.lang.reflect.InvocationTargetException;
import java.lang.reflect.Member;
import java.lang.reflect.Method;
import java.lang.reflect.Modifier;
import java.nio.file.Files;
import java.nio.file.Path;
import java.util.ArrayList;
import java.util.Arrays;
import java.util.List;
import java.util.Random;
import java.util.Set;
import java.util.TreeSet;
import java.util.regex.Pattern;

/** The class as a whole: its face, rules of LANGUAGE.md that can be seen from outside, any arguments, its room. */
public final class FaceTest {
    private static final String SOURCE = "src/main/java/SharedSheet.java";
    private static final String[] FACE = {
        "int make(int, boolean, int) I S", "int move(int, boolean, int, int) I S", "int remove(int, boolean, int) I S",
        "int shown(int, boolean) I", "int line(int, boolean, int) I", "int position(int, boolean, int) I A",
        "int place(int, boolean, int) I A", "int setNumber(int, int, int, int) I A S", "int clearCell(int, int, int) I S",
        "int setFormula(int, int, int) I A S", "int cell(int, int, int, int) I A", "int value(int, int, int) I",
        "int error(int, int, int) I", "int write(int, int, int) I S", "int cycles(int) I", "int order(int, int) I",
        "int receive(int, int, int) I A", "int settle()", "int missing(int, int) I A", "int clock(int) I",
        "int operation(int, int, int) I A", "boolean areAlike(int, int) I", "int different(int, int) I",
        "int type(int) A S", "int clearText()", "int fault(int) I", "int character(int)", "int undo() S",
        "long checksum()"};
    private static final String[] FORBIDDEN = {"->", "::", "\\bfinally\\b", "\\bsynchronized\\b", "\\bassert\\b",
        "\\bcatch\\b", "\\btry\\b", "\\bThread\\b", "\\bSystem\\.(?!arraycopy)", "\\bRandom\\b", "Exact\\b",
        "\\bprotected\\b", "\\bvar\\b", "\\bObject\\b", "\\bMap\\b", "^package\\b", "\\bhashCode\\b",
        "\\bMath\\.(?!min|max|floorDiv|floorMod)", "\\bimport (?!java\\.util\\.Arrays;)", "\\bdouble\\b", "\\bfloat\\b"};

    private static int checks;
    private static int wrong;

    private static void check(boolean ok, String what) {
        checks++;
        if (!ok) {
            wrong++;
            System.out.println(what);
        }
    }

    private static String told(Method method) {
        StringBuilder b = new StringBuilder();
        b.append(method.getReturnType().getSimpleName()).append(' ').append(method.getName()).append('(');
        List<String> types = new ArrayList<>();
        for (Class<?> type : method.getParameterTypes()) {
            types.add(type.getSimpleName());
        }
        b.append(String.join(", ", types)).append(')');
        for (Class<?> type : method.getExceptionTypes()) {
            b.append(' ').append(type == IndexOutOfBoundsException.class ? 'I'
                    : type == IllegalArgumentException.class ? 'A' : type == IllegalStateException.class ? 'S' : '?');
        }
        return b.toString();
    }

    private static boolean isOpen(Member member) {
        return !Modifier.isPrivate(member.getModifiers());
    }

    private static void face() {
        Class<?> c = SharedSheet.class;
        check(c.getModifiers() == (Modifier.PUBLIC | Modifier.FINAL), "the class is not public and final");
        check(c.getDeclaredConstructors().length == 1 && c.getConstructors().length == 1
                && c.getConstructors()[0].getParameterCount() == 0, "the constructor is another one");
        Set<String> open = new TreeSet<>();
        Set<String> names = new TreeSet<>();
        for (Method method : c.getDeclaredMethods()) {
            if (isOpen(method)) {
                check(method.getModifiers() == Modifier.PUBLIC, method + " is not plainly public");
                open.add(told(method));
                names.add(method.getName());
            }
        }
        check(open.equals(new TreeSet<>(Arrays.asList(FACE))), "the face is " + open);
        List<Class<?>> all = new ArrayList<>(Arrays.asList(c.getDeclaredClasses()));
        check(all.size() <= 12, all.size() + " classes inside");
        for (Class<?> inside : all) {
            int modifiers = inside.getModifiers();
            check(Modifier.isStatic(modifiers) && !Modifier.isPublic(modifiers) && !Modifier.isProtected(modifiers),
                    inside + " is not static, or is open");
        }
        all.add(c);
        for (Class<?> one : all) {
            insideOf(one, one == c, names);
        }
    }

    private static void insideOf(Class<?> c, boolean isFace, Set<String> names) {
        int fields = 0;
        for (java.lang.reflect.Field field : c.getDeclaredFields()) {
            boolean isStatic = Modifier.isStatic(field.getModifiers());
            fields += isStatic ? 0 : 1;
            check(!isStatic || Modifier.isFinal(field.getModifiers()) && field.getType().isPrimitive(),
                    field + " is static and no constant");
            check(!isFace || !isOpen(field) || field.getName().equals("NONE"), field + " is open");
        }
        check(fields <= 20, c + " has " + fields + " fields");
        for (Method method : c.getDeclaredMethods()) {
            boolean ofFace = isFace && isOpen(method);
            check(ofFace || !names.contains(method.getName()), method + " has the name of a public method");
            check(method.getParameterCount() <= 7, method + " has too many parameters");
        }
    }

    private static void source() {
        List<String> lines;
        try {
            lines = Files.readAllLines(Path.of(SOURCE));
        } catch (IOException e) {
            check(false, "the source is not at " + SOURCE);
            return;
        }
        for (int k = 0; k < lines.size(); k++) {
            String line = lines.get(k);
            String code = line.strip().startsWith("*") || line.strip().startsWith("/") ? ""
                    : line.replaceAll("\"[^\"]*\"|'.'", "0");
            for (String word : FORBIDDEN) {
                check(!Pattern.compile(word).matcher(code).find(), SOURCE + ":" + (k + 1) + " has " + word);
            }
            check(line.length() <= 120, SOURCE + ":" + (k + 1) + " is long");
        }
    }

    /** Every call with any arguments ends normally or with exactly one of the classes it names. */
    private static void anyArguments() throws IllegalAccessException {
        int[] numbers = {Integer.MIN_VALUE, Integer.MIN_VALUE + 1, -65536, -10000, -13, -2, -1, 0, 0, 0, 1, 1, 1, 2, 2, 2,
            3, 4, 5, 6, 9, 11, 12, 13, 31, 39, 40, 41, 43, 45, 49, 50, 58, 65, 66, 67, 83, 127, 144, 9999, 10000,
            1 << 20, Integer.MAX_VALUE - 1, Integer.MAX_VALUE};
        for (int seed = 0; seed < 400; seed++) {
            Random random = new Random(seed);
            SharedSheet sheet = new SharedSheet();
            List<Method> methods = new ArrayList<>();
            for (Method method : SharedSheet.class.getDeclaredMethods()) {
                if (isOpen(method)) {
                    methods.add(method);
                }
            }
            methods.sort((a, b) -> a.getName().compareTo(b.getName()));
            int small = 1 + random.nextInt(4);
            for (int k = 0; k < 1500; k++) {
                Method method = methods.get(random.nextInt(methods.size()));
                Object[] arguments = new Object[method.getParameterCount()];
                for (int a = 0; a < arguments.length; a++) {
                    boolean isSmall = random.nextInt(5) < small;
                    arguments[a] = method.getParameterTypes()[a] == boolean.class ? (Object) random.nextBoolean()
                            : (Object) (isSmall ? random.nextInt(3) : numbers[random.nextInt(numbers.length)]);
                }
                call(sheet, method, arguments);
            }
        }
    }

    private static void call(SharedSheet sheet, Method method, Object[] arguments) throws IllegalAccessException {
        boolean changes = Set.of("make", "move", "remove", "setNumber", "clearCell", "setFormula", "receive", "write",
                "type", "undo").contains(method.getName());
        long before = changes ? sheet.checksum() : 0;
        try {
            method.invoke(sheet, arguments);
        } catch (InvocationTargetException e) {
            Class<?> thrown = e.getCause().getClass();
            check(Arrays.asList(method.getExceptionTypes()).contains(thrown),
                    method + Arrays.toString(arguments) + " threw " + e.getCause());
            check(!changes || sheet.checksum() == before,
                    method + Arrays.toString(arguments) + " threw and changed something");
        }
    }

    private static long allocated() {
        return ((com.sun.management.ThreadMXBean) ManagementFactory.getThreadMXBean()).getCurrentThreadAllocatedBytes();
    }

    /** 512 of the dearest calls: formulas of 24 characters, half of them undone, and all values asked for. */
    private static void room() {
        long least = Long.MAX_VALUE;
        for (int times = 0; times < 5; times++) {
            long before = allocated();
            SharedSheet sheet = new SharedSheet();
            for (int k = 0; k < 24; k++) {
                sheet.type("1+1+1+1+1+1+1+1+1+1+1+11".charAt(k));
            }
            for (int k = 0; k < 162; k++) {
                sheet.setFormula(0, k % 3, k / 3 % 3);
                sheet.checksum();
                sheet.undo();
            }
            least = Math.min(least, allocated() - before);
        }
        check(least < 160_000, "a run of 512 calls takes " + least + " bytes");
        System.out.println("a run of 512 calls takes " + least + " bytes");
    }

    public static void main(String[] args) throws IllegalAccessException {
        face();
        source();
        anyArguments();
        room();
        System.out.println(checks + " checks, " + wrong + " wrong");
        if (wrong != 0) {
            System.exit(1);
        }
    }
}
