import java.io.IOException;
import java.lang.management.ManagementFactory;
import java.lang.reflect.Field;
import java.lang.reflect.Method;
import java.lang.reflect.Modifier;
import java.nio.file.Files;
import java.nio.file.Path;
import java.util.Random;
import java.util.Set;
import java.util.TreeSet;
import java.util.regex.Matcher;
import java.util.regex.Pattern;

/** The public face, the rules of LANGUAGE.md that can be looked up, and calls with any numbers. */
public final class FaceTest {
    private static final Due DUE = new Due();
    private static final Path SOURCE = Path.of("src/main/java/SaturdaySale.java");
    private static final String[] FACE = {
        "int set(int,int)", "int price(int)", "int sort(int,int,int)", "int change(int,int,int)",
        "int worth(int,int)", "int plan(int,int)", "long brings(int)", "long left(int,int)",
        "int best(int,int)", "long state(int,int,int)", "int dip(int)", "int kept(int,int)",
        "long keeps(int,int)", "int rather()", "int picks(int,int)", "int made(int)", "int say(int)",
        "int wipe()", "int fault()", "int rule()", "int asks(int,int)", "long boy(int)", "int worst()",
        "int edge(int)", "int told(int)"};
    private static final String[] CONSTANTS = {"UNKNOWN", "OUTSIDE", "STATE", "FULL", "NO", "NONE", "LOST"};

    public static void main(String[] args) throws IOException {
        face();
        words();
        nothingThrows();
        likeCallsAnswerAlike();
        callsMakeNoObjects();
        DUE.end();
    }

    private static void face() {
        int modifiers = SaturdaySale.class.getModifiers();
        DUE.is("public and final", Modifier.isPublic(modifiers) && Modifier.isFinal(modifiers) ? 1 : 0, 1);
        Set<String> names = new TreeSet<>();
        Set<String> found = new TreeSet<>();
        for (Method method : SaturdaySale.class.getDeclaredMethods()) {
            if (Modifier.isPrivate(method.getModifiers())) {
                continue;
            }
            StringBuilder text = new StringBuilder(method.getReturnType().getName());
            text.append(' ').append(method.getName()).append('(');
            for (int i = 0; i < method.getParameterCount(); i++) {
                text.append(i > 0 ? "," : "").append(method.getParameterTypes()[i].getName());
            }
            found.add(text.append(')').toString());
            names.add(method.getName());
        }
        same("methods", found, Set.of(FACE));
        for (Method method : SaturdaySale.class.getDeclaredMethods()) {
            boolean hides = Modifier.isPrivate(method.getModifiers()) && names.contains(method.getName());
            DUE.is("private " + method.getName() + " bears a public name", hides ? 1 : 0, 0);
        }
        Set<String> fields = new TreeSet<>();
        for (Field field : SaturdaySale.class.getDeclaredFields()) {
            if (!Modifier.isPrivate(field.getModifiers())) {
                fields.add(field.getName());
            }
        }
        same("fields", fields, Set.of(CONSTANTS));
        DUE.is("constructors", SaturdaySale.class.getDeclaredConstructors().length, 1);
        for (Class<?> inside : SaturdaySale.class.getDeclaredClasses()) {
            DUE.is(inside.getName() + " is static", Modifier.isStatic(inside.getModifiers()) ? 1 : 0, 1);
        }
    }

    private static void same(String what, Set<String> found, Set<String> due) {
        if (!found.equals(new TreeSet<>(due))) {
            System.out.println(what + " are " + found);
        }
        DUE.is(what, found.equals(new TreeSet<>(due)) ? 1 : 0, 1);
    }

    private static void words() throws IOException {
        String code = Files.readString(SOURCE).replaceAll("(?s)/\\*.*?\\*/", "").replaceAll("//[^\n]*", "");
        String[] ruledOut = {"\\bthrow\\b", "\\btry\\b", "\\bcatch\\b", "\\bsynchronized\\b", "\\bassert\\b",
            "->", "::", "\\bimport\\b", "\\bpackage\\b", "\\bException\\b", "Exact\\(", "\\bprotected\\b",
            "\\bstatic\\s*\\{", "\\bdouble\\b", "\\bfloat\\b"};
        for (String word : ruledOut) {
            Matcher matcher = Pattern.compile(word).matcher(code);
            DUE.is("the source has " + word, matcher.find() ? 1 : 0, 0);
        }
    }

    private static int wild(Random random) {
        switch (random.nextInt(8)) {
            case 0: return random.nextInt();
            case 1: return random.nextBoolean() ? Integer.MAX_VALUE : Integer.MIN_VALUE;
            case 2: return random.nextInt(100);
            case 3: return random.nextInt(40) - 3;
            default: return random.nextInt(8) - 1;
        }
    }

    /** A call by its place in the face; the second number is taken where the call has one. */
    private static long call(SaturdaySale x, int which, int a, int b, int c) {
        switch (which) {
            case 0: return x.set(a, b);
            case 1: return x.price(a);
            case 2: return x.sort(a, b, c);
            case 3: return x.change(a, b, c);
            case 4: return x.worth(a, b);
            case 5: return x.plan(a, b);
            case 6: return x.brings(a);
            case 7: return x.left(a, b);
            case 8: return x.best(a, b);
            case 9: return x.state(a, b, c);
            case 10: return x.dip(a);
            case 11: return x.kept(a, b);
            case 12: return x.keeps(a, b);
            case 13: return x.rather();
            case 14: return x.picks(a, b);
            case 15: return x.made(a);
            case 16: return x.say(a);
            case 17: return x.wipe();
            case 18: return x.fault();
            case 19: return x.rule();
            case 20: return x.asks(a, b);
            case 21: return x.boy(a);
            case 22: return x.worst();
            case 23: return x.edge(a);
            default: return x.told(a);
        }
    }

    private static void nothingThrows() {
        Random random = new Random(7);
        for (int run = 0; run < 300; run++) {
            SaturdaySale x = new SaturdaySale();
            for (int i = 0; i < 512; i++) {
                int which = random.nextInt(FACE.length);
                int a = wild(random);
                int b = wild(random);
                int c = wild(random);
                try {
                    call(x, which, a, b, c);
                } catch (RuntimeException e) {
                    DUE.is(FACE[which] + " with " + a + ", " + b + ", " + c + " threw " + e, 1, 0);
                }
            }
        }
        DUE.is("nothing thrown", 0, 0);
    }

    private static SaturdaySale largestSale() {
        SaturdaySale x = new SaturdaySale();
        x.set(0, 12);
        x.set(1, 6);
        for (int v = 90; v > 40; v -= 10) {
            x.price(v);
        }
        for (int i = 0; i < 3; i++) {
            x.sort(1 + i, 95 - 10 * i, 5 + i);
            x.change(i, 3, i);
        }
        for (char sign : "l<3:0;d>2:3;1".toCharArray()) {
            x.say(sign);
        }
        x.rule();
        return x;
    }

    /** No call that only asks may change what another one answers. */
    private static void likeCallsAnswerAlike() {
        SaturdaySale x = largestSale();
        SaturdaySale y = largestSale();
        int[] asking = {4, 6, 7, 8, 9, 10, 11, 12, 13, 14, 15, 18, 20, 21, 22, 23, 24};
        for (int i = 0; i < 4 * asking.length; i++) {
            call(x, asking[i * 5 % asking.length], i % 4, i % 2, i % 2);
        }
        for (int which : asking) {
            for (int a = 0; a < 5; a++) {
                String name = FACE[which] + " with " + a;
                DUE.is(name, call(x, which, a, 1, 0), call(y, which, a, 1, 0));
                DUE.is(name + " again", call(x, which, a, 1, 0), call(y, which, a, 1, 0));
            }
        }
    }

    /** All calls of a run share one room, so what is needed is made once, with the object. */
    private static void callsMakeNoObjects() {
        com.sun.management.ThreadMXBean bean = (com.sun.management.ThreadMXBean) ManagementFactory.getThreadMXBean();
        long id = Thread.currentThread().getId();
        SaturdaySale x = largestSale();
        long sum = 0;
        long before = bean.getThreadAllocatedBytes(id);
        for (int i = 0; i < 500; i++) {
            sum += call(x, i % FACE.length, i % 3, i % 2, i % 2);
        }
        long made = bean.getThreadAllocatedBytes(id) - before;
        DUE.is("500 calls made more than 10 kB (" + made + ", " + sum % 2 + ")", made > 10_000 ? 1 : 0, 0);
    }
}
