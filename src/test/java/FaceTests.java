import java.io.IOException;
import java.lang.reflect.Constructor;
import java.lang.reflect.Field;
import java.lang.reflect.Method;
import java.lang.reflect.Modifier;
import java.nio.file.Files;
import java.nio.file.Path;
import java.util.Random;
import java.util.Set;
import java.util.TreeSet;
import java.util.regex.Matcher;
import java.util.regex.Pattern;

/** The public face as the document has it, rules of LANGUAGE.md that can be seen, calls with any numbers. */
public final class FaceTests {
    private static final Checks CHECKS = new Checks();
    private static final String[] FACE = {
        "int type(long,int)", "int clear()", "int program(int)", "int next(int,int,int,int)", "int act(int,int)",
        "int alike(int,int)", "long apart(int,int)", "int far(int,int)", "int within(int,int)", "int dead(int)",
        "int fewest(int)", "int ahead(int,int)", "int behind(int,int)", "long many(int,int)",
        "int lets(int,int,long)", "int walk(int,int,long,int)", "int size(int)", "int count(int)", "long trace()"};

    private FaceTests() {
    }

    public static void main(String[] args) throws Exception {
        constants();
        methods();
        nothingElse();
        classesInside();
        words();
        anyNumbers();
        placesAreLookedAt();
        CHECKS.finish("FaceTests");
    }

    private static void constants() {
        CHECKS.due("BAD", TestedLoops.BAD, -1);
        CHECKS.due("FULL", TestedLoops.FULL, -3);
        CHECKS.due("NONE", TestedLoops.NONE, -9);
        int mask = Modifier.PUBLIC | Modifier.FINAL;
        CHECKS.due("public final", TestedLoops.class.getModifiers() & mask, mask);
    }

    private static void methods() {
        Set<String> found = new TreeSet<>();
        for (Method method : TestedLoops.class.getDeclaredMethods()) {
            if (Modifier.isPublic(method.getModifiers())) {
                found.add(told(method));
            }
        }
        CHECKS.holds("the methods are " + found, found.equals(new TreeSet<>(Set.of(FACE))));
    }

    private static String told(Method method) {
        StringBuilder types = new StringBuilder();
        for (Class<?> type : method.getParameterTypes()) {
            types.append(types.length() == 0 ? "" : ",").append(type.getName());
        }
        return method.getReturnType().getName() + " " + method.getName() + "(" + types + ")";
    }

    private static void nothingElse() {
        for (Field field : TestedLoops.class.getDeclaredFields()) {
            boolean ofTheFace = Set.of("BAD", "FULL", "NONE").contains(field.getName());
            int access = ofTheFace ? Modifier.PUBLIC : Modifier.PRIVATE;
            CHECKS.holds(field.toString(), (field.getModifiers() & access) != 0);
        }
        for (Method method : TestedLoops.class.getDeclaredMethods()) {
            int access = Modifier.PUBLIC | Modifier.PRIVATE;
            CHECKS.holds(method.toString(), (method.getModifiers() & access) != 0);
        }
        Constructor<?>[] constructors = TestedLoops.class.getDeclaredConstructors();
        CHECKS.due("constructors", constructors.length, 1);
        CHECKS.due("its parameters", constructors[0].getParameterCount(), 0);
        CHECKS.holds("it is public", Modifier.isPublic(constructors[0].getModifiers()));
    }

    private static void classesInside() {
        Set<String> faceNames = new TreeSet<>();
        for (String method : FACE) {
            faceNames.add(method.replaceAll(".* |\\(.*", ""));
        }
        CHECKS.holds("some twelve classes", TestedLoops.class.getDeclaredClasses().length <= 11);
        for (Class<?> inside : TestedLoops.class.getDeclaredClasses()) {
            CHECKS.holds(inside + " is static", Modifier.isStatic(inside.getModifiers()));
            CHECKS.holds(inside + " is private", Modifier.isPrivate(inside.getModifiers()));
            for (Method method : inside.getDeclaredMethods()) {
                CHECKS.holds(method + " has a name of its own", !faceNames.contains(method.getName()));
                CHECKS.holds(method + " has few parameters", method.getParameterCount() <= 7);
            }
            staticFields(inside);
        }
        staticFields(TestedLoops.class);
    }

    private static void staticFields(Class<?> owner) {
        int fields = 0;
        for (Field field : owner.getDeclaredFields()) {
            if (!Modifier.isStatic(field.getModifiers())) {
                fields++;
                continue;
            }
            boolean plain = field.getType().isPrimitive() || field.getType() == String.class;
            CHECKS.holds(field + " is a constant", plain && Modifier.isFinal(field.getModifiers()));
        }
        CHECKS.holds(owner + " has some twenty fields at most", fields <= 20);
    }

    private static void words() throws IOException {
        String source = Files.readString(Path.of("src/main/java/TestedLoops.java"));
        source = source.replaceAll("(?s)/\\*.*?\\*/", "").replaceAll("//[^\n]*", "");
        String barred = "\\b(throw|throws|try|catch|synchronized|assert|import|package|record|var|enum"
            + "|hashCode|toString|equals|System\\.(?!arraycopy)|Random|Thread|\\w+Exact)\\b|->|::";
        Matcher found = Pattern.compile(barred).matcher(source);
        while (found.find()) {
            CHECKS.holds("the source has " + found.group(), false);
        }
        CHECKS.holds("the source was read", source.contains("public final class TestedLoops"));
    }

    /** Nothing is thrown and only answers of the right kind come, whatever the numbers are. */
    private static void anyNumbers() {
        Random random = new Random(11);
        for (int run = 0; run < 400; run++) {
            TestedLoops x = new TestedLoops();
            for (int i = 0; i < 4; i++) {
                Checks.tell(x, i, new Reference(random.nextInt(), 4).text);
            }
            x.clear();
            for (int call = 0; call < 300; call++) {
                anyCall(x, random);
            }
        }
    }

    private static void anyCall(TestedLoops x, Random random) {
        int i = number(random, 4);
        int j = number(random, 4);
        int n = number(random, 18);
        long row = random.nextInt(3) == 0 ? random.nextLong() : random.nextInt(1 << random.nextInt(31));
        boolean bad = i < 0 || i > 3;
        boolean anyBad = bad || j < 0 || j > 3;
        within("type", x.type(row, number(random, 10)), -3, 300);
        within("program", x.program(i), bad ? -1 : -310, bad ? -1 : 16);
        within("next", x.next(i, n, number(random, 4), number(random, 2)), -9, 16);
        within("act", x.act(i, n), -1, 3);
        within("alike", x.alike(i, j), anyBad ? -1 : 0, anyBad ? -1 : 1);
        within("apart", x.apart(i, j), anyBad ? -1 : -10, anyBad ? -1 : Long.MAX_VALUE);
        within("far", x.far(i, j), anyBad ? -1 : -9, anyBad ? -1 : 34);
        within("within", x.within(i, j), anyBad ? -1 : 0, anyBad ? -1 : 1);
        within("dead", x.dead(i), bad ? -1 : 0, bad ? -1 : 131070);
        within("fewest", x.fewest(i), bad ? -1 : 0, bad ? -1 : 17);
        within("ahead", x.ahead(i, n), -1, 15);
        within("behind", x.behind(i, n), -1, 15);
        within("many", x.many(i, n), -1, 1L << 30);
        within("lets", x.lets(i, n, row), -1, 1);
        within("walk", x.walk(i, n, row, number(random, 2)), -9, 16);
        within("size", x.size(i), bad ? -1 : 1, bad ? -1 : 3000);
        within("count", x.count(number(random, 2)), -1, 300);
        within("trace", x.trace(), 0, Long.MAX_VALUE);
        within("clear", random.nextInt(5) == 0 ? x.clear() : 0, 0, 300);
    }

    /** What a plan is asked of a place holds for any number, so no index is used before it is looked at. */
    private static void placesAreLookedAt() throws Exception {
        Class<?> type = Class.forName("TestedLoops$Plan");
        Constructor<?> constructor = type.getDeclaredConstructor();
        constructor.setAccessible(true);
        Object plan = constructor.newInstance();
        for (int place : new int[] {Integer.MIN_VALUE, -9, -1, 1, 16, 17, 18, 1 << 30, Integer.MAX_VALUE}) {
            CHECKS.due("actAt " + place, asked(plan, "actAt", place), 0);
            CHECKS.due("isLive " + place, asked(plan, "isLive", place), 0);
            CHECKS.due("endings " + place, asked(plan, "endings", place), 0);
            for (int atom : new int[] {Integer.MIN_VALUE, -1, 0, 3, 4, Integer.MAX_VALUE}) {
                CHECKS.due("goes " + place + " " + atom, asked(plan, "goes", place, atom), -9);
                CHECKS.due("lastsBy " + place + " " + atom, asked(plan, "lastsBy", place, atom), 0);
            }
        }
        CHECKS.due("goes 0 -1", asked(plan, "goes", 0, -1), -9);
        CHECKS.due("goes 0 4", asked(plan, "goes", 0, 4), -9);
        CHECKS.due("goes 0 3", asked(plan, "goes", 0, 3), 0);
        CHECKS.due("isLive 0", asked(plan, "isLive", 0), 1);
    }

    private static int asked(Object plan, String name, int... numbers) throws Exception {
        Class<?>[] types = new Class<?>[numbers.length];
        Object[] values = new Object[numbers.length];
        for (int k = 0; k < numbers.length; k++) {
            types[k] = int.class;
            values[k] = numbers[k];
        }
        Method method = plan.getClass().getDeclaredMethod(name, types);
        method.setAccessible(true);
        Object answer = method.invoke(plan, values);
        return answer instanceof Boolean ? ((Boolean) answer ? 1 : 0) : (Integer) answer;
    }

    private static int number(Random random, int below) {
        int pick = random.nextInt(20);
        if (pick == 0) {
            return random.nextInt();
        }
        return pick == 1 ? -1 : pick == 2 ? below : random.nextInt(below);
    }

    private static void within(String call, long got, long least, long most) {
        CHECKS.holds(call + " answered " + got, got >= least && got <= most);
    }
}
