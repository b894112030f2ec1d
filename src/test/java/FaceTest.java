import java.lang.management.ManagementFactory;
import java.lang.reflect.Constructor;
import java.lang.reflect.Field;
import java.lang.reflect.InvocationTargetException;
import java.lang.reflect.Method;
import java.lang.reflect.Modifier;
import java.nio.file.Files;
import java.nio.file.Path;
import java.util.ArrayList;
import java.util.Arrays;
import java.util.List;
import java.util.Random;
import java.util.TreeSet;
import java.util.regex.Matcher;
import java.util.regex.Pattern;

/** The public face, wild arguments in many states, what a run makes, and rules that a search can see. */
public final class FaceTest {
    private static final String[] FACE = {
        "feed(int,int,int,int,int)", "end(int)", "town()", "fault(int)", "flow(int,int,int)", "turned(int,int)",
        "wheel(int,int)", "reading(int,int,int,int)", "read(int,int,int)", "undo(int)", "told(int,int)",
        "readings(int,int)", "counted(int,int)", "balance(int,int,int,int)", "lost(int,int,int,int)", "fits(int)",
        "fewest()", "sets()", "alone(int)", "ways(int)", "leak(int)", "span(int)", "next(int)", "unlike(int,int)",
        "walk(int)", "step(int,int)", "round(int,int)", "bill(int,int)", "billed(int,int,int)",
        "owed(int,int,int,int)", "change(int,int)", "won(int,int)", "night(int,int)", "rod(int,int)",
        "loudest(int)", "drought(int,int)", "limit(int,int)", "errors(int,int)", "off(int,int)", "worst(int)",
        "lot(int,int,int,int)", "burst(int,int)", "bursts(int,int)", "appeal(int,int,int)",
        "share(int,int,int,int)", "garden(int,int)", "vacant(int)", "missed(int)", "guess(int,int)",
        "judge(int,int,int)", "count(int)", "keep(int)", "back(int)", "row(int,int,int)", "write(int,int,long)",
        "paste(int,int,int,int,int)"};

    /** Twelve METERS, one below the other, and six of each of the rest; some 1,190 bytes. */
    private static final String FULL = full();

    private static int wrong = 0;

    public static void main(String[] args) throws Exception {
        face();
        wildCalls();
        whatARunMakes();
        rules();
        System.out.println(wrong == 0 ? "the face is as due" : wrong + " faults");
        if (wrong != 0) {
            System.exit(1);
        }
    }

    private static void complain(String what) {
        wrong++;
        System.out.println(what);
    }

    private static void face() throws Exception {
        Class<?> c = WheelTown.class;
        if (!Modifier.isPublic(c.getModifiers()) || !Modifier.isFinal(c.getModifiers())) {
            complain("the class is not public and final");
        }
        TreeSet<String> due = new TreeSet<>(Arrays.asList(FACE));
        TreeSet<String> publicNames = new TreeSet<>();
        for (String method : FACE) {
            publicNames.add(method.substring(0, method.indexOf('(')));
        }
        for (Method m : c.getDeclaredMethods()) {
            StringBuilder s = new StringBuilder(m.getName()).append('(');
            for (Class<?> p : m.getParameterTypes()) {
                s.append(s.charAt(s.length() - 1) == '(' ? "" : ",").append(p.getName());
            }
            s.append(')');
            if (Modifier.isPrivate(m.getModifiers())) {
                if (publicNames.contains(m.getName())) {
                    complain("a private method has the name of a public one: " + s);
                }
            } else if (!due.remove(s.toString()) || m.getReturnType() != int.class || !Modifier.isPublic(m.getModifiers())) {
                complain("not of the face: " + s);
            }
        }
        for (String missing : due) {
            complain("missing: " + missing);
        }
        for (Constructor<?> k : c.getDeclaredConstructors()) {
            if (!Modifier.isPublic(k.getModifiers()) || k.getParameterCount() != 0) {
                complain("a constructor that is not of the face");
            }
        }
        fields(c);
    }

    private static void fields(Class<?> c) throws Exception {
        for (Field f : c.getDeclaredFields()) {
            boolean isNone = f.getName().equals("NONE");
            if (!Modifier.isPrivate(f.getModifiers()) != isNone) {
                complain("field " + f.getName());
            }
            if (Modifier.isStatic(f.getModifiers()) && !Modifier.isFinal(f.getModifiers())) {
                complain("static state: " + f.getName());
            }
            if (isNone && (f.getType() != int.class || f.getInt(null) != -1
                    || f.getModifiers() != (Modifier.PUBLIC | Modifier.STATIC | Modifier.FINAL))) {
                complain("NONE is not as due");
            }
        }
        size(c);
        for (Class<?> inner : c.getDeclaredClasses()) {
            if (!Modifier.isStatic(inner.getModifiers()) || !Modifier.isPrivate(inner.getModifiers())) {
                complain("class " + inner.getName());
            }
            size(inner);
        }
    }

    /** Rules 3 (of fields), 5 and 11 (fields, parameters), as a class that is compiled shows them. */
    private static void size(Class<?> c) {
        int own = 0;
        for (Field f : c.getDeclaredFields()) {
            own += Modifier.isStatic(f.getModifiers()) ? 0 : 1;
            Class<?> type = f.getType();
            if (!isAllowed(type)) {
                complain(c.getName() + "." + f.getName() + " is a " + type.getName());
            }
            boolean isConstant = type == int.class || type == long.class || type == boolean.class
                    || type == char.class || type == String.class || type == int[].class;
            if (Modifier.isStatic(f.getModifiers()) && !(Modifier.isFinal(f.getModifiers()) && isConstant)) {
                complain("static state: " + c.getName() + "." + f.getName());
            }
        }
        if (own > 20) {
            complain(c.getName() + " has " + own + " fields");
        }
        for (Method m : c.getDeclaredMethods()) {
            if (m.getParameterCount() > 7) {
                complain(c.getName() + "." + m.getName() + " takes " + m.getParameterCount());
            }
        }
    }

    /** Numbers, own classes, rows of these, and rows of rows of numbers alone. */
    private static boolean isAllowed(Class<?> type) {
        Class<?> row = type.getComponentType();
        if (row == null) {
            return type.isPrimitive() || type.getName().startsWith("WheelTown");
        }
        Class<?> inner = row.getComponentType();
        return inner == null ? isAllowed(row) : inner.isPrimitive();
    }

    // ---- wild arguments

    private static String full() {
        StringBuilder s = new StringBuilder("meter use 999 digits 6 age 40 at 0 0;");
        for (int m = 1; m < 12; m++) {
            s.append("meter below ").append(m - 1).append(" use 9 summer 9 digits 3 age 40 at ").append(m * 37 % 100)
                    .append(' ').append(m * 53 % 100).append(m % 3 == 0 ? "crawl;" : m % 3 == 1 ? "backward;" : ";");
        }
        for (int i = 0; i < 6; i++) {
            s.append("leak 11rate 999since ").append(i).append(';');
            s.append("flush 11litres 9999on ").append(11 * i).append(';');
        }
        for (int i = 0; i < 2; i++) {
            s.append("empty ").append(i).append("from 7to ").append(729 - i).append(';');
        }
        return s.append("tariff 0standing 1first 1upto 1beyond 9;").toString();
    }

    private static void feedText(WheelTown x, String text) {
        x.end(0);
        byte[] b = new byte[(text.length() + 19) / 20 * 20];
        for (int i = 0; i < text.length(); i++) {
            b[i] = (byte) text.charAt(i);
        }
        java.nio.ByteBuffer buffer = java.nio.ByteBuffer.wrap(b);
        for (int i = 0; i < b.length; i += 20) {
            x.feed(buffer.getInt(), buffer.getInt(), buffer.getInt(), buffer.getInt(), buffer.getInt());
        }
        x.end(text.length());
    }

    private static void wildCalls() throws Exception {
        WheelTown probe = new WheelTown();
        feedText(probe, FULL);
        if (FULL.length() > 1200 || probe.town() < 0) {
            complain("the full text has fault " + probe.fault(0) + " at " + probe.fault(1) + " of " + FULL.length());
        }
        List<Method> methods = new ArrayList<>();
        for (Method m : WheelTown.class.getDeclaredMethods()) {
            if (Modifier.isPublic(m.getModifiers())) {
                methods.add(m);
            }
        }
        Random random = new Random(4);
        for (int run = 0; run < 400 && wrong < 10; run++) {
            WheelTown x = new WheelTown();
            if (run % 4 != 0) {
                feedText(x, run % 4 == 1 ? FULL : FULL.substring(0, FULL.indexOf(';', 40 * (run % 10)) + 1));
                x.town();
            }
            for (int call = 0; call < 500; call++) {
                wildCall(x, methods.get(random.nextInt(methods.size())), random);
            }
        }
    }

    private static void wildCall(WheelTown x, Method m, Random random) throws Exception {
        Object[] args = new Object[m.getParameterCount()];
        for (int i = 0; i < args.length; i++) {
            int v = wild(random);
            if (m.getParameterTypes()[i] == long.class) {
                args[i] = random.nextBoolean() ? (long) v : random.nextLong();
            } else {
                args[i] = v;
            }
        }
        try {
            m.invoke(x, args);
        } catch (InvocationTargetException e) {
            complain(m.getName() + Arrays.toString(args) + " threw " + e.getCause());
        }
    }

    private static int wild(Random random) {
        int[] edges = {Integer.MIN_VALUE, Integer.MIN_VALUE + 1, -1201, -731, -61, -2, -1, 3, 4, 5, 6, 7, 11, 12, 13, 30,
            31, 32, 33, 59, 60, 61, 64, 119, 120, 121, 364, 365, 729, 730, 731, 999, 1000, 1199, 1200, 4095, 4096,
            9999, 10000, 99999, 999999, 1000000, 2000000000, Integer.MAX_VALUE - 1, Integer.MAX_VALUE};
        int kind = random.nextInt(8);
        return kind == 0 ? edges[random.nextInt(edges.length)] : kind == 1 ? random.nextInt()
                : kind == 2 ? random.nextInt(730) : kind == 3 ? random.nextInt(12) : random.nextInt(4);
    }

    // ---- what a run makes

    private static long allocated() {
        com.sun.management.ThreadMXBean bean =
                (com.sun.management.ThreadMXBean) ManagementFactory.getThreadMXBean();
        return bean.getThreadAllocatedBytes(Thread.currentThread().getId());
    }

    private static int dearCalls(WheelTown x, int calls) {
        int sum = 0;
        for (int i = 0; i < calls; i++) {
            x.keep(i % 3);
            x.read(i % 12, i % 730, -1);
            sum += x.round(500, i) + x.change(5000, i) + x.leak(3) + x.sets() + x.step(4095, i % 12)
                    + x.errors(0, 2) + x.lot(i, 12, i, 0) + x.row(i % 4, 3, 60) + x.back(i % 3);
        }
        return sum;
    }

    private static void whatARunMakes() {
        WheelTown warm = new WheelTown();
        feedText(warm, FULL);
        warm.town();
        int sum = dearCalls(warm, 2);
        long before = allocated();
        WheelTown x = new WheelTown();
        feedText(x, FULL);
        x.town();
        sum += dearCalls(x, 2);
        long few = allocated();
        sum += dearCalls(x, 40);
        long many = allocated();
        if (sum == 1) {
            System.out.println();
        }
        if (few - before > 300000) {
            complain("an object and its rows are " + (few - before) + " bytes");
        }
        if (many - few > 20000) {
            complain("360 calls made " + (many - few) + " bytes");
        }
    }

    // ---- rules of the language

    private static void rules() throws Exception {
        String source = Files.readString(Path.of("src/main/java/WheelTown.java"));
        String code = source.replaceAll("(?s)/\\*.*?\\*/", "").replaceAll("//[^\n]*", "")
                .replaceAll("\"[^\"\n]*\"", "\"\"");
        String[] forbidden = {"throw", "throws", "try", "catch", "synchronized", "assert", "record", "volatile",
            "transient", "package", "protected", "hashCode", "toString", "random", "currentTimeMillis", "Exact"};
        for (String word : forbidden) {
            if (code.matches("(?s).*\\b\\w*" + (word.equals("Exact") ? "Exact" : "(?<!\\w)" + word) + "\\b.*")) {
                complain("the source has " + word);
            }
        }
        if (code.contains("->") || code.contains("::") || code.matches("(?s).*static\\s*\\{.*")
                || code.contains("\" +") || code.contains("+ \"")) {
            complain("a lambda, a reference, a static block or texts joined by +");
        }
        for (char c : source.toCharArray()) {
            if (c > 126) {
                complain("a sign beyond 126");
            }
        }
        if (code.split("\\bclass\\b").length - 1 > 12) {
            complain("more than twelve classes");
        }
        library(code);
        longMethods(source);
    }

    /** Rule 4: nothing of the library but functions that it lists; a constant of it is none. */
    private static void library(String code) {
        List<String> listed = Arrays.asList("Integer.bitCount", "Math.abs", "Math.floorMod", "Math.max", "Math.min",
                "Arrays.fill", "System.arraycopy");
        Matcher m = Pattern.compile("\\b(Integer|Long|Short|Byte|Character|Boolean|Double|Math|Arrays|System|Object"
                + "|String|StringBuilder|Objects|Collections)\\s*\\.\\s*(\\w+)").matcher(code);
        while (m.find()) {
            if (!listed.contains(m.group(1) + "." + m.group(2))) {
                complain("the library's " + m.group());
            }
        }
        String imports = code.replaceAll("import java\\.util\\.Arrays;", "");
        if (imports.contains("import ") || imports.contains("java.")) {
            complain("an import that is not needed");
        }
    }

    private static void longMethods(String source) {
        String[] lines = source.split("\n");
        int start = -1;
        for (int i = 0; i < lines.length; i++) {
            boolean opens = lines[i].matches(" {4}( {4})?[a-zA-Z].*\\) \\{") || lines[i].matches(" {8}( {4})?\\|\\|.*\\) \\{");
            if (opens && !lines[i].contains(" class ")) {
                start = i;
            }
            if (lines[i].matches(" {4}( {4})?\\}") && start >= 0) {
                if (i - start > 60) {
                    complain("a method of " + (i - start) + " lines: " + lines[start]);
                }
                start = -1;
            }
        }
    }
}
