import java.lang.management.ManagementFactory;
import java.lang.reflect.Constructor;
import java.lang.reflect.Field;
import java.lang.reflect.Method;
import java.lang.reflect.Modifier;
import java.nio.charset.StandardCharsets;
import java.nio.file.Files;
import java.nio.file.Path;
import java.util.Arrays;
import java.util.Random;
import java.util.Set;
import java.util.TreeSet;
import java.util.regex.Matcher;
import java.util.regex.Pattern;

/** The class as such: its face, the rules of its language that a test can see, no throw, no object made by a call. */
public final class FaceTest {
    private static final String[] METHODS = {
        "int write(int,long)", "int wipe()", "int fault()", "int parlour()", "int about(int)", "int person(int,int)",
        "int saying(int,int)", "int law(int)", "int may(int)", "int say(int)", "int talk(int,int)", "int come(int)",
        "int go(int)", "int undo()", "int judge(int,int)", "int most(int)", "int mostAt(int,int)", "int soon(int)",
        "int need(int)", "int each()", "long out(int,int)", "long chance(int,int,int,boolean)", "int keep(int)",
        "int again(int)"
    };
    private static final int[] EDGES = {
        Integer.MIN_VALUE, Integer.MIN_VALUE + 1, -10, -9, -8, -2, -1, 0, 1, 2, 3, 4, 5, 6, 7, 8, 9, 10, 11, 12, 31, 32, 33,
        54, 55, 63, 64, 72, 73, 99_999_999, 100_000_000, Integer.MAX_VALUE - 1, Integer.MAX_VALUE
    };
    private static int wrong = 0;

    public static void main(String[] args) throws Exception {
        publicFace();
        hiddenMembers();
        language();
        lengthOfMethods();
        neverThrows();
        makesNothing();
        System.out.println(wrong == 0 ? "the face and the language are as due" : wrong + " faults");
        if (wrong != 0) {
            System.exit(1);
        }
    }

    private static void fails(String what) {
        wrong++;
        System.out.println(what);
    }

    private static void publicFace() {
        Class<?> face = SaidLeast.class;
        if (!Modifier.isPublic(face.getModifiers()) || !Modifier.isFinal(face.getModifiers())) {
            fails("the class is not public and final");
        }
        Constructor<?>[] made = face.getDeclaredConstructors();
        if (made.length != 1 || made[0].getParameterCount() != 0 || !Modifier.isPublic(made[0].getModifiers())) {
            fails("there is not just the one public constructor");
        }
        Set<String> found = new TreeSet<>();
        for (Method m : face.getDeclaredMethods()) {
            if (!Modifier.isPrivate(m.getModifiers())) {
                StringBuilder types = new StringBuilder();
                for (Class<?> type : m.getParameterTypes()) {
                    types.append(types.length() == 0 ? "" : ",").append(type.getSimpleName());
                }
                found.add(m.getReturnType().getSimpleName() + " " + m.getName() + "(" + types + ")");
            }
        }
        if (!found.equals(new TreeSet<>(Arrays.asList(METHODS)))) {
            fails("methods are " + found);
        }
        Set<String> constants = new TreeSet<>();
        for (Field f : face.getDeclaredFields()) {
            if (!Modifier.isPrivate(f.getModifiers())) {
                constants.add(f.getName());
            }
            if (Modifier.isStatic(f.getModifiers()) && !Modifier.isFinal(f.getModifiers())) {
                fails("static and not final: " + f);
            }
        }
        if (!constants.equals(new TreeSet<>(Arrays.asList("UNKNOWN", "BAD", "LATE", "FULL", "NONE")))) {
            fails("constants are " + constants);
        }
    }

    private static void hiddenMembers() {
        Set<String> names = new TreeSet<>();
        for (String m : METHODS) {
            names.add(m.substring(m.indexOf(' ') + 1, m.indexOf('(')));
        }
        Class<?>[] inner = SaidLeast.class.getDeclaredClasses();
        if (inner.length > 11) {
            fails("more than twelve classes");
        }
        for (Class<?> c : inner) {
            if (!Modifier.isStatic(c.getModifiers()) || Modifier.isPublic(c.getModifiers())) {
                fails("not static or public: " + c);
            }
            for (Method m : c.getDeclaredMethods()) {
                if (names.contains(m.getName())) {
                    fails("bears the name of a public one: " + m);
                }
                if (m.getParameterCount() > 7) {
                    fails("more than seven parameters: " + m);
                }
            }
        }
    }

    private static void language() throws Exception {
        String source = Files.readString(Path.of("src/main/java/SaidLeast.java"), StandardCharsets.ISO_8859_1);
        String code = source.replaceAll("(?s)/\\*.*?\\*/", " ").replaceAll("//[^\n]*", " ");
        for (int i = 0; i < source.length(); i++) {
            if (source.charAt(i) > 126) {
                fails("a sign beyond 126 at " + i);
            }
        }
        Matcher banned = Pattern.compile("\\b(throw|throws|try|catch|synchronized|assert|package|\\w+Exact|System\\.(?!arraycopy)\\w+"
            + "|Thread|Random|Iterator|HashMap|Object|hashCode|toString)\\b|->|::|@").matcher(code);
        while (banned.find()) {
            fails("not in the language: " + banned.group());
        }
        Matcher imports = Pattern.compile("import\\s+([^;]+);").matcher(code);
        while (imports.find()) {
            if (!imports.group(1).matches("java\\.util\\.(Arrays|ArrayList|List)")) {
                fails("import of " + imports.group(1));
            }
        }
        Matcher library = Pattern.compile("\\b(Integer|Long|Math|Arrays|System)\\.\\w+\\b(\\s*\\()?").matcher(code);
        while (library.find()) {
            if (!library.group().matches("(Integer\\.bitCount|Math\\.(max|min)|Arrays\\.fill|System\\.arraycopy)\\(")) {
                fails("not in the library: " + library.group());
            }
        }
        if (Pattern.compile("\\bfor\\s*\\(\\s*;|\\bwhile\\s*\\(\\s*true").matcher(code).find()) {
            fails("a loop without an end");
        }
    }

    /** A method of the class begins at one or two steps to the right and ends with a brace just there. */
    private static void lengthOfMethods() throws Exception {
        String source = Files.readString(Path.of("src/main/java/SaidLeast.java"), StandardCharsets.ISO_8859_1);
        Matcher method = Pattern.compile("(?m)^((?: {4}){1,2})(?! |return|if|for|else)[^\n;=]*\\([^\n;]*\\) \\{\n(?s:.*?)^\\1\\}").matcher(source);
        int found = 0;
        while (method.find()) {
            found++;
            if (method.group().split("\n").length > 60) {
                fails("longer than sixty lines: " + method.group().split("\n")[0]);
            }
        }
        if (found < METHODS.length) {
            fails("only " + found + " methods were looked at");
        }
    }

    private static void neverThrows() {
        Random random = new Random(7L);
        for (int run = 0; run < 300; run++) {
            SaidLeast x = new SaidLeast();
            StringBuilder told = new StringBuilder();
            try {
                if (run % 4 != 0) {
                    tell(x, random.nextBoolean() ? "Q1P05P05P07A99P05P05S011-S1220S213-S314-S4151S516-S0175S1186" : "Q2P00S011-S012-");
                }
                for (int i = 0; i < 600; i++) {
                    anyCall(x, random, told);
                }
            } catch (RuntimeException thrown) {
                fails("thrown: " + thrown + " behind" + told);
            }
        }
    }

    private static void tell(SaidLeast x, String text) {
        x.wipe();
        for (int i = 0; i < text.length(); i++) {
            x.write(1, text.charAt(i));
        }
        if (x.parlour() == SaidLeast.LATE) {
            fails("no parlour: " + text);
        }
    }

    private static int any(Random random) {
        return random.nextInt(3) == 0 ? EDGES[random.nextInt(EDGES.length)] : random.nextInt(12) - 2;
    }

    private static long anyCall(SaidLeast x, Random random, StringBuilder told) {
        int kind = random.nextInt(24);
        int a = any(random);
        int b = any(random);
        int c = any(random);
        if (told != null) {
            told.append(' ').append(kind).append(':').append(a).append(',').append(b).append(',').append(c);
        }
        switch (kind) {
            case 0: return x.write(a, random.nextLong());
            case 1: return random.nextInt(50) == 0 ? x.wipe() : 0;
            case 2: return x.fault();
            case 3: return x.parlour();
            case 4: return x.about(a);
            case 5: return x.person(a, b);
            case 6: return x.saying(a, b);
            case 7: return x.law(a);
            case 8: return x.may(a);
            case 9: return x.say(a);
            case 10: return x.talk(a, b);
            case 11: return x.come(a);
            case 12: return x.go(a);
            case 13: return x.undo();
            case 14: return x.judge(a, b);
            case 15: return x.most(a);
            case 16: return x.mostAt(a, b);
            case 17: return x.soon(a);
            case 18: return x.need(a);
            case 19: return x.each();
            case 20: return x.out(a, b);
            case 21: return x.chance(a, b, c, random.nextBoolean());
            case 22: return x.keep(a);
            default: return x.again(a);
        }
    }

    /** All calls of a run share one room, so no call may make an object. */
    private static void makesNothing() {
        if (!(ManagementFactory.getThreadMXBean() instanceof com.sun.management.ThreadMXBean threads)
                || !threads.isThreadAllocatedMemorySupported()) {
            return;
        }
        SaidLeast x = new SaidLeast();
        tell(x, "Q1P05P05P07A99P05P05S011-S1220S213-S314-S4151S516-S0175S1186");
        Random random = new Random(8L);
        long sum = 0;
        long fewest = Long.MAX_VALUE;
        for (int round = 0; round < 10; round++) {
            long before = threads.getThreadAllocatedBytes(Thread.currentThread().getId());
            for (int i = 0; i < 5000; i++) {
                sum += anyCall(x, random, null);
            }
            fewest = Math.min(fewest, threads.getThreadAllocatedBytes(Thread.currentThread().getId()) - before);
        }
        if (fewest > 5000 * 8) {
            fails("5000 calls made " + fewest + " bytes of objects, sum " + sum);
        }
    }
}
