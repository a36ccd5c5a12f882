import java.io.IOException;
import java.lang.reflect.Field;
import java.lang.reflect.Method;
import java.lang.reflect.Modifier;
import java.nio.file.Files;
import java.nio.file.Paths;
import java.util.Random;
import java.util.TreeSet;
import java.util.regex.Pattern;

/** No call throws, refused calls and asking ones change nothing, and the source keeps to the language. */
public final class GuardTests {
    private static final String SOURCE = "src/main/java/BaizeCorps.java";
    private static final int[] ODD = {Integer.MIN_VALUE, Integer.MIN_VALUE + 1, -1000, -7, -3, -2, -1, 0, 1, 2, 3, 4,
        5, 7, 8, 9, 10, 12, 22, 31, 32, 44, 45, 60, 61, 64, 99, 100, 360, 999, 1000, 65537, 99999, 100000,
        Integer.MAX_VALUE - 1, Integer.MAX_VALUE};

    private static int wrong = 0;

    public static void main(String[] args) throws IOException, ReflectiveOperationException {
        anyArguments();
        nothingChanges();
        face();
        shape(BaizeCorps.class);
        language();
        System.out.println(wrong == 0 ? "all answers are as due" : wrong + " answers are not as due");
        if (wrong != 0) {
            System.exit(1);
        }
    }

    private static void must(boolean holds, String what) {
        if (!holds) {
            wrong++;
            System.out.println("not so: " + what);
        }
    }

    private static int odd(Random random) {
        return random.nextInt(3) == 0 ? random.nextInt(130) : ODD[random.nextInt(ODD.length)];
    }

    /** Whatever is thrown ends the test with its trace. */
    private static void anyArguments() throws ReflectiveOperationException {
        for (int seed = 0; seed < 400; seed++) {
            Random random = new Random(seed);
            BaizeCorps x = new BaizeCorps();
            for (int call = 0; call < 512; call++) {
                invokeOne(x, random);
            }
        }
    }

    private static void invokeOne(BaizeCorps x, Random random) throws ReflectiveOperationException {
        Method[] methods = BaizeCorps.class.getDeclaredMethods();
        Method method = methods[random.nextInt(methods.length)];
        if (!Modifier.isPublic(method.getModifiers())) {
            return;
        }
        Object[] arguments = new Object[method.getParameterCount()];
        for (int i = 0; i < arguments.length; i++) {
            arguments[i] = odd(random);
        }
        method.invoke(x, arguments);
    }

    /** All that can be seen of an object without a change to it. */
    private static String seenOf(BaizeCorps x) {
        StringBuilder all = new StringBuilder();
        for (int what : new int[] {0, 1, 2, 3, 4, 10, 11, 12}) {
            all.append(x.told(what)).append(' ');
        }
        all.append(x.fault()).append(' ').append(x.sent(-1)).append(' ').append(x.sent(1)).append(' ');
        for (int what = 0; what < 3; what++) {
            all.append(x.judge(what)).append(' ').append(x.behind(what)).append(' ');
        }
        return all.toString();
    }

    private static void nothingChanges() {
        String[] pads = {"", "A", "B29", "A^", "~.C75", "A25B31"};
        for (String pad : pads) {
            BaizeCorps x = new BaizeCorps();
            x.ball(1, 12);
            x.score(3, 4);
            x.seen(3, 13);
            x.seen(4, 14);
            for (int i = 0; i < pad.length(); i++) {
                x.say(pad.charAt(i));
            }
            String before = seenOf(x);
            askMuch(x);
            must(seenOf(x).equals(before), "asking and refused calls change nothing, the pad being '" + pad + "'");
        }
    }

    private static void askMuch(BaizeCorps x) {
        x.ball(0, 0);
        x.ball(0, 12);
        x.ball(3, 1);
        x.score(100, 1);
        x.score(1, -1);
        x.say(32);
        x.say(127);
        x.seen(61, 1);
        x.seen(1, 45);
        x.image(2);
        x.restore(1);
        x.restore(-1);
        for (int k = 0; k < 4; k++) {
            x.table(k);
            x.candour(k);
            x.hint(0, 1, k, 0);
            x.hint(1, 2, k, 1);
            x.alone(10 + k, 3, 50, k);
            x.strokes(10, 20 + k, k);
            x.ask(k);
            x.chalk(123, 1, k);
            x.match(5, 4, k, 2, 1, 0);
            x.season(77, 99, k);
        }
        if (x.fault() != BaizeCorps.NONE || x.judge(0) != BaizeCorps.NONE) {
            x.done();
        }
    }

    private static void face() {
        must(Modifier.isPublic(BaizeCorps.class.getModifiers()) && Modifier.isFinal(BaizeCorps.class.getModifiers()),
            "the class is public and final");
        must(BaizeCorps.class.getDeclaredConstructors().length == 1 && BaizeCorps.class.getConstructors().length == 1
            && BaizeCorps.class.getConstructors()[0].getParameterCount() == 0, "one constructor, public, of nothing");
        TreeSet<String> face = new TreeSet<>();
        TreeSet<String> names = new TreeSet<>();
        for (Method method : BaizeCorps.class.getDeclaredMethods()) {
            if (!Modifier.isPrivate(method.getModifiers())) {
                face.add(method.getReturnType() + " " + method.getName() + " " + method.getParameterCount());
                names.add(method.getName());
                must(Modifier.isPublic(method.getModifiers()), method.getName() + " is public or private");
            }
        }
        must(face.toString().equals("[int alone 4, int ask 1, int ball 2, int behind 1, int candour 1, int chalk 3,"
            + " int done 0, int fault 0, int forget 0, int hint 4, int image 1, int judge 1, int restore 1,"
            + " int say 1, int score 2, int season 3, int seen 2, int sent 1, int strokes 3, int table 1,"
            + " int told 1, int wipe 0, long match 6]"), "the methods of the face: " + face);
        for (Method method : BaizeCorps.class.getDeclaredMethods()) {
            must(Modifier.isPublic(method.getModifiers()) || !names.contains(method.getName()),
                "a private method has a name of its own: " + method.getName());
        }
        TreeSet<String> constants = new TreeSet<>();
        for (Field field : BaizeCorps.class.getDeclaredFields()) {
            if (!Modifier.isPrivate(field.getModifiers())) {
                constants.add(field.getType() + " " + field.getName());
            }
        }
        String due = "[int FULL, int NO, int NONE, int OUTSIDE, int STATE, int UNKNOWN, long GONE]";
        must(constants.toString().equals(due), "the constants of the face: " + constants);
    }

    /** What of ../shared/LANGUAGE.md can be seen of the classes as they are compiled. */
    private static void shape(Class<?> type) {
        for (Field field : type.getDeclaredFields()) {
            must(!Modifier.isStatic(field.getModifiers()) || Modifier.isFinal(field.getModifiers()),
                "rule 5: a static field is final: " + field);
        }
        for (Method method : type.getDeclaredMethods()) {
            must(method.getParameterCount() <= 7, "rule 11: seven parameters at the most: " + method);
        }
        for (Class<?> inner : type.getDeclaredClasses()) {
            must(Modifier.isStatic(inner.getModifiers()), "rule 1: a class inside is static: " + inner);
            must(!Modifier.isPublic(inner.getModifiers()) && !Modifier.isProtected(inner.getModifiers()),
                "rule 1: a class inside is private or package-visible: " + inner);
            shape(inner);
        }
    }

    /** What of ../shared/LANGUAGE.md a search of the source can see. */
    private static void language() throws IOException {
        String source = new String(Files.readAllBytes(Paths.get(SOURCE)), "ISO-8859-1");
        for (int i = 0; i < source.length(); i++) {
            if (source.charAt(i) > 127) {
                must(false, "rule 4: no other signs than those to 127");
                break;
            }
        }
        String code = source.replaceAll("(?s)/\\*.*?\\*/", " ").replaceAll("//[^\n]*", " ");
        String[] words = {"package", "throw", "throws", "try", "catch", "synchronized", "assert", "protected", "native",
            "hashCode", "HashMap", "HashSet", "Random", "Thread", "BigInteger", "Scanner", "Optional"};
        for (String word : words) {
            must(!has(code, "\\b" + word + "\\b"), "the source is without '" + word + "'");
        }
        must(!has(code, "\\bimport\\s+(?!java\\.util\\.(ArrayList|List|Arrays|Iterator|\\*)\\s*;)"),
            "rule 4: no other import than of lists and arrays");
        must(!has(code, "\\bSystem\\b(?!\\s*\\.\\s*arraycopy\\b)"), "rule 4: of System arraycopy alone");
        must(!has(code, "Exact\\s*\\("), "rule 4: no function whose name ends in Exact");
        must(!has(code, "::"), "rule 2: no method reference");
        must(!has(code.replaceAll("\\b(case\\b[^;:{}]*?|default\\s*)->", " "), "->"), "rule 2: no lambda");
    }

    private static boolean has(String code, String pattern) {
        return Pattern.compile(pattern).matcher(code).find();
    }
}
