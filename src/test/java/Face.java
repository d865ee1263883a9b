import java.lang.reflect.Constructor;
import java.lang.reflect.Field;
import java.lang.reflect.Method;
import java.lang.reflect.Modifier;
import java.nio.file.Files;
import java.nio.file.Path;
import java.util.Arrays;
import java.util.List;
import java.util.Set;
import java.util.TreeSet;
import java.util.regex.Matcher;
import java.util.regex.Pattern;

/** The document's public face, and those rules of LANGUAGE.md that can be read off the class and its text. */
public final class Face {
    private static int wrong = 0;

    private static void due(boolean holds, String what) {
        if (!holds) {
            wrong++;
            System.out.println("not as due: " + what);
        }
    }

    private static final String[] METHODS = {
        "int sheet(int, int, int)", "int set(int, int, int)", "int copy(int, int, int, int, int)", "int drop(int)",
        "int row(int, int, int, int)", "int land(int, int, int)", "int strip(int, int, int, int)",
        "int nth(int, int, int)", "int turn(int, int)", "int mirror(int, int)", "int clear(int)", "int kind(int)",
        "int is(int, int)", "int as(int, int)", "int ask(int, int)", "int trace(int)", "int sign(int, int)",
        "int joined(int, int)", "int rank(int)", "int loops(int, int)", "int way(int, int, int)",
        "int lands(int, int)", "int unlike(int)", "long sum(int, int)", "int stamp(int, int)", "int clash(int, int)",
        "int folds(int)", "int nthFold(int, int, int)", "int count(int)", "int status()",
    };

    public static void main(String[] args) throws Exception {
        constants();
        members();
        classesInside();
        text(Files.readString(Path.of("src/main/java/RiverRoad.java")));
        System.out.println(wrong == 0 ? "the face is as due" : wrong + " things are not as due");
        if (wrong != 0) {
            System.exit(1);
        }
    }

    private static void constants() {
        due(RiverRoad.NONE == -1000000, "NONE");
        due(RiverRoad.BAD == -1000001, "BAD");
        due(RiverRoad.STATE == -1000002, "STATE");
        due(RiverRoad.FULL == -1000003, "FULL");
    }

    private static String told(Method method) {
        String parameters = Arrays.toString(method.getParameterTypes());
        return method.getReturnType() + " " + method.getName() + "(" + parameters.substring(1, parameters.length() - 1) + ")";
    }

    private static void members() {
        int of = RiverRoad.class.getModifiers();
        due(Modifier.isPublic(of) && Modifier.isFinal(of), "a public final class");
        Set<String> open = new TreeSet<>();
        Set<String> names = new TreeSet<>();
        for (Method method : RiverRoad.class.getDeclaredMethods()) {
            if (!Modifier.isPrivate(method.getModifiers())) {
                due(Modifier.isPublic(method.getModifiers()), told(method) + " is public");
                open.add(told(method));
                names.add(method.getName());
            }
        }
        due(open.equals(new TreeSet<>(List.of(METHODS))), "the public methods: " + open);
        for (Method method : RiverRoad.class.getDeclaredMethods()) {
            boolean hidden = Modifier.isPrivate(method.getModifiers());
            due(!hidden || !names.contains(method.getName()), "a private method with another name: " + told(method));
            due(method.getParameterCount() <= 7, "at most seven parameters: " + told(method));
        }
        for (Constructor<?> constructor : RiverRoad.class.getDeclaredConstructors()) {
            due(constructor.getParameterCount() == 0, "no constructor but the document's");
        }
        Set<String> constants = Set.of("NONE", "BAD", "STATE", "FULL");
        for (Field field : RiverRoad.class.getDeclaredFields()) {
            boolean hidden = Modifier.isPrivate(field.getModifiers());
            due(hidden != constants.contains(field.getName()), "field " + field.getName());
            boolean shared = Modifier.isStatic(field.getModifiers());
            due(!shared || Modifier.isFinal(field.getModifiers()), "a static field is final: " + field.getName());
        }
    }

    private static void classesInside() {
        Class<?>[] inside = RiverRoad.class.getDeclaredClasses();
        due(inside.length + 1 <= 12, "at most twelve classes: " + inside.length);
        for (Class<?> one : inside) {
            due(Modifier.isStatic(one.getModifiers()), one + " is static");
            due(one.getDeclaredFields().length <= 20, one + " has at most twenty fields");
            for (Field field : one.getDeclaredFields()) {
                due(!Modifier.isStatic(field.getModifiers()), "no static state in " + one);
            }
        }
    }

    private static void text(String source) {
        String bare = source.replaceAll("(?s)/\\*.*?\\*/", "").replaceAll("//[^\n]*", "");
        String[] words = {
            "throw", "throws", "try", "catch", "finally", "synchronized", "assert", "package", "native", "volatile",
            "equals", "hashCode", "toString", "Exact", "Random", "System.out", "Thread", "Object",
        };
        for (String word : words) {
            boolean has = Pattern.compile("\\b" + Pattern.quote(word) + "\\b").matcher(bare).find();
            due(!has, "the text is without " + word);
        }
        due(!bare.contains("->") && !bare.contains("::"), "no lambda, no method reference");
        due(!bare.contains("@"), "no annotation: the library that LANGUAGE.md lists has none");
        due(!bare.contains("\""), "no texts");
        Matcher imports = Pattern.compile("import ([^;]*);").matcher(bare);
        while (imports.find()) {
            due(imports.group(1).equals("java.util.Arrays"), "import " + imports.group(1));
        }
        Set<String> listed = Set.of(
            "System.arraycopy", "Arrays.copyOf", "Arrays.copyOfRange", "Arrays.fill", "Math.min", "Math.max",
            "Long.bitCount");
        Matcher calls = Pattern.compile("\\b(System|Arrays|Math|Long|Integer)\\.\\w+").matcher(bare);
        while (calls.find()) {
            due(listed.contains(calls.group()), "the library: " + calls.group());
        }
        due(source.chars().allMatch(sign -> sign == '\n' || sign >= 32 && sign < 127), "plain signs alone");
        methods(bare);
    }

    /** A method's head and its end stand at one indent, so that they can be told apart without a parser. */
    private static void methods(String bare) {
        Pattern form = Pattern.compile("(?ms)^( {4}| {8})(?! )([^\n;=]*?)(\\w+)\\([^\n;]*\\) \\{\n(.*?)^\\1\\}$");
        Matcher methods = form.matcher(bare);
        int many = 0;
        while (methods.find()) {
            many++;
            String name = methods.group(3);
            String body = methods.group(4);
            due(body.lines().count() <= 60, name + " stays short");
            boolean callsItself = Pattern.compile("(?<![\\w.])" + name + "\\(").matcher(body).find();
            due(!callsItself || methods.group(2).contains("private static "), name + " calls itself: so it is private static");
        }
        due(many > METHODS.length, "methods were found: " + many);
    }
}
