import java.lang.reflect.Constructor;
import java.lang.reflect.Field;
import java.lang.reflect.Method;
import java.lang.reflect.Modifier;
import java.nio.file.Files;
import java.nio.file.Path;
import java.util.Arrays;
import java.util.List;
import java.util.Map;
import java.util.TreeMap;
import java.util.TreeSet;
import java.util.regex.Matcher;
import java.util.regex.Pattern;

/** What a program can see of LANGUAGE.md's rules in PeckYard, and that its face is the document's. */
public final class RulesTest {
    private static final List<String> FACE = List.of(
            "hen int int", "ask int int", "take int int", "pen int int", "peck int int long", "leave int",
            "about int int", "isOf int int", "pecks int int", "undo", "least", "many", "best long", "number",
            "sure int int", "why", "begin", "stand int", "order int", "move int int", "weight", "fault",
            "better int", "turn", "groups", "groupOf int", "loose", "pack", "ring int int", "count int");
    private static final List<String> FORBIDDEN = List.of(
            "throw", "throws", "try", "catch", "synchronized", "assert", "->", "::", "package", "protected",
            "volatile", "native", "hashCode", "toString", "Random", "Thread", "currentTimeMillis", "nanoTime",
            "Exact", "static \\{");
    private static final int MOST_CALLS_DEEP = 8;
    private static final Pattern METHOD = Pattern.compile(
            "(?m)^ +(?:public |private )?(?:static )?(?:void|int|long|boolean) (\\w+)\\([^)]*\\) \\{$");
    private static final Pattern CALL = Pattern.compile("(?<!new )\\b([a-z]\\w*)\\(");
    private static int wrong = 0;

    private static void refuse(String what) {
        wrong++;
        System.out.println(what);
    }

    private static void checkFace() {
        TreeSet<String> found = new TreeSet<>();
        TreeSet<String> names = new TreeSet<>();
        for (Method method : PeckYard.class.getDeclaredMethods()) {
            if (Modifier.isPrivate(method.getModifiers())) continue;
            StringBuilder row = new StringBuilder(method.getName());
            for (Class<?> type : method.getParameterTypes()) row.append(' ').append(type.getName());
            found.add(row.toString());
            names.add(method.getName());
            if (method.getReturnType() != long.class || method.getModifiers() != Modifier.PUBLIC) {
                refuse(row + " is not just a public one that answers a long");
            }
        }
        if (!found.equals(new TreeSet<>(FACE))) refuse("the face is " + found);
        for (Constructor<?> maker : PeckYard.class.getDeclaredConstructors()) {
            if (maker.getParameterCount() > 0) refuse("a constructor too many");
            if (!Modifier.isPublic(maker.getModifiers())) refuse("the constructor is not public");
        }
        if (PeckYard.class.getModifiers() != (Modifier.PUBLIC | Modifier.FINAL)) refuse("the class is not public and final");
        if (PeckYard.class.getInterfaces().length > 0) refuse("the class has faces that the document does not tell of");
        checkConstants();
        checkPrivateNames(PeckYard.class, names);
        for (Class<?> inside : PeckYard.class.getDeclaredClasses()) {
            checkPrivateNames(inside, names);
            int is = inside.getModifiers();
            if (!Modifier.isStatic(is)) refuse(inside + " is not static");
            if (Modifier.isPublic(is) || Modifier.isProtected(is)) refuse(inside + " is open");
            if (inside.getDeclaredFields().length > 20) refuse(inside + " has too many fields");
        }
        if (PeckYard.class.getDeclaredClasses().length > 11) refuse("too many classes");
    }

    private static void checkConstants() {
        TreeSet<String> found = new TreeSet<>();
        for (Field field : PeckYard.class.getFields()) found.add(field.getType() + " " + field.getName());
        if (!found.equals(new TreeSet<>(List.of("long BAD", "long NO", "long FULL", "long NONE")))) {
            refuse("the constants are " + found);
        }
        long[] values = {PeckYard.BAD, PeckYard.NO, PeckYard.FULL, PeckYard.NONE};
        long[] due = {-2000000001L, -2000000002L, -2000000003L, -2000000005L};
        if (!Arrays.equals(values, due)) refuse("the constants have the values " + Arrays.toString(values));
    }

    private static void checkPrivateNames(Class<?> type, TreeSet<String> names) {
        for (Method method : type.getDeclaredMethods()) {
            boolean isFace = type == PeckYard.class && Modifier.isPublic(method.getModifiers());
            if (!isFace && names.contains(method.getName())) refuse(type + " has a second " + method.getName());
            if (method.getParameterCount() > 7) refuse(method + " takes too much");
        }
        for (Field field : type.getDeclaredFields()) {
            int is = field.getModifiers();
            if (Modifier.isStatic(is) && !Modifier.isFinal(is)) refuse(field + " is static and not final");
            boolean isConstant = Modifier.isStatic(is) && Modifier.isPublic(is);
            if (type == PeckYard.class && !Modifier.isPrivate(is) && !isConstant) refuse(field + " is open");
        }
    }

    private static void checkText(String text) {
        String code = text.replaceAll("(?s)/\\*.*?\\*/", "").replaceAll("//[^\n]*", "");
        for (String word : FORBIDDEN) {
            String pattern = Character.isLetter(word.charAt(0)) && !word.equals("Exact") ? "\\b" + word + "\\b" : word;
            if (word.startsWith("static")) pattern = "\\bstatic\\s*\\{";
            Matcher found = Pattern.compile(pattern).matcher(code);
            if (found.find()) refuse("the program has " + found.group());
        }
        Matcher imports = Pattern.compile("import ([^;]+);").matcher(code);
        while (imports.find()) {
            if (!imports.group(1).matches("java\\.util\\.(Arrays|ArrayList|List)")) refuse("import " + imports.group(1));
        }
        checkLengths(code);
        checkDepths(code);
    }

    /** Methods of one name are taken for one, so that no way is missed; none of them may come to itself. */
    private static void checkDepths(String code) {
        Map<String, TreeSet<String>> calls = new TreeMap<>();
        Matcher head = METHOD.matcher(code);
        int end = 0;
        String name = "";
        while (head.find()) {
            if (!name.isEmpty()) addCalls(calls, name, code.substring(end, head.start()));
            name = head.group(1);
            end = head.end();
        }
        addCalls(calls, name, code.substring(end));
        for (String row : FACE) {
            String call = row.split(" ")[0];
            if (!calls.containsKey(call)) refuse(call + " is not found in the text");
            int deep = depthOf(call, calls, 1);
            if (deep > MOST_CALLS_DEEP) refuse(call + " goes " + deep + " calls deep");
        }
    }

    private static void addCalls(Map<String, TreeSet<String>> calls, String name, String body) {
        TreeSet<String> called = calls.computeIfAbsent(name, key -> new TreeSet<>());
        Matcher call = CALL.matcher(body);
        while (call.find()) called.add(call.group(1));
    }

    private static int depthOf(String name, Map<String, TreeSet<String>> calls, int depth) {
        int deepest = depth;
        if (depth > 2 * MOST_CALLS_DEEP || !calls.containsKey(name)) return deepest;
        for (String called : calls.get(name)) {
            if (calls.containsKey(called)) deepest = Math.max(deepest, depthOf(called, calls, depth + 1));
        }
        return deepest;
    }

    /** A method's lines are those from its head's brace to the one that closes it. */
    private static void checkLengths(String code) {
        int depth = 0;
        int line = 0;
        int[] opened = new int[100];
        String[] heads = new String[100];
        for (String row : code.split("\n")) {
            line++;
            for (char c : row.toCharArray()) {
                if (c == '{') {
                    opened[depth] = line;
                    heads[depth] = row.trim();
                    depth++;
                } else if (c == '}') {
                    depth--;
                    boolean isClass = heads[depth].contains("class ");
                    if (!isClass && line - opened[depth] > 60) refuse("too long: " + heads[depth]);
                }
            }
        }
    }

    public static void main(String[] args) throws Exception {
        checkFace();
        checkText(Files.readString(Path.of("src/main/java/PeckYard.java")));
        System.out.println(wrong == 0 ? "all rules that can be seen are kept" : wrong + " rules are broken");
        if (wrong != 0) System.exit(1);
    }
}
