import java.lang.reflect.Constructor;
import java.lang.reflect.Field;
import java.lang.reflect.Method;
import java.lang.reflect.Modifier;
import java.nio.file.Files;
import java.nio.file.Path;
import java.util.List;
import java.util.TreeSet;
import java.util.regex.Matcher;
import java.util.regex.Pattern;

/** What a program can see of LANGUAGE.md's rules in PeckYard, and that its face is the document's. */
public final class RulesTest {
    private static final List<String> FACE = List.of(
            "hen int int", "ask int int", "take int int", "pen int int", "peck int int long", "leave int",
            "about int int", "isOf int int", "pecks int int", "undo", "least", "many", "best long", "number",
            "sure int int", "why", "begin", "stand int", "order int", "move int int", "weight", "fault",
            "better int", "turn", "groups", "groupOf int", "loose", "pack", "ring int int", "count int");
    private static final List<String> FORBIDDEN = List.of(
            "throw", "throws", "try", "catch", "synchronized", "assert", "->", "::", "package", "protected",
            "volatile", "native", "hashCode", "toString", "Random", "Thread", "currentTimeMillis", "nanoTime",
            "Exact", "static \\{");
    private static int wrong = 0;

    private static void refuse(String what) {
        wrong++;
        System.out.println(what);
    }

    private static void checkFace() {
        TreeSet<String> found = new TreeSet<>();
        TreeSet<String> names = new TreeSet<>();
        for (Method method : PeckYard.class.getDeclaredMethods()) {
            if (Modifier.isPrivate(method.getModifiers())) continue;
            StringBuilder row = new StringBuilder(method.getName());
            for (Class<?> type : method.getParameterTypes()) row.append(' ').append(type.getName());
            found.add(row.toString());
            names.add(method.getName());
            if (method.getReturnType() != long.class || !Modifier.isPublic(method.getModifiers())) {
                refuse(row + " is not a public one that answers a long");
            }
        }
        if (!found.equals(new TreeSet<>(FACE))) refuse("the face is " + found);
        for (Constructor<?> maker : PeckYard.class.getDeclaredConstructors()) {
            if (maker.getParameterCount() > 0) refuse("a constructor too many");
        }
        checkPrivateNames(PeckYard.class, names);
        for (Class<?> inside : PeckYard.class.getDeclaredClasses()) {
            checkPrivateNames(inside, names);
            if (!Modifier.isStatic(inside.getModifiers())) refuse(inside + " is not static");
            if (inside.getDeclaredFields().length > 20) refuse(inside + " has too many fields");
        }
        if (PeckYard.class.getDeclaredClasses().length > 12) refuse("too many classes");
    }

    private static void checkPrivateNames(Class<?> type, TreeSet<String> names) {
        for (Method method : type.getDeclaredMethods()) {
            boolean isFace = type == PeckYard.class && Modifier.isPublic(method.getModifiers());
            if (!isFace && names.contains(method.getName())) refuse(type + " has a second " + method.getName());
            if (method.getParameterCount() > 7) refuse(method + " takes too much");
        }
        for (Field field : type.getDeclaredFields()) {
            int is = field.getModifiers();
            if (Modifier.isStatic(is) && !Modifier.isFinal(is)) refuse(field + " is static and not final");
            boolean isConstant = Modifier.isStatic(is) && Modifier.isPublic(is);
            if (type == PeckYard.class && !Modifier.isPrivate(is) && !isConstant) refuse(field + " is open");
        }
    }

    private static void checkText(String text) {
        String code = text.replaceAll("(?s)/\\*.*?\\*/", "").replaceAll("//[^\n]*", "");
        for (String word : FORBIDDEN) {
            String pattern = Character.isLetter(word.charAt(0)) && !word.equals("Exact") ? "\\b" + word + "\\b" : word;
            if (word.startsWith("static")) pattern = "\\bstatic\\s*\\{";
            Matcher found = Pattern.compile(pattern).matcher(code);
            if (found.find()) refuse("the program has " + found.group());
        }
        Matcher imports = Pattern.compile("import ([^;]+);").matcher(code);
        while (imports.find()) {
            if (!imports.group(1).matches("java\\.util\\.(Arrays|ArrayList|List)")) refuse("import " + imports.group(1));
        }
        checkLengths(code);
    }

    /** A method's lines are those from its head's brace to the one that closes it. */
    private static void checkLengths(String code) {
        int depth = 0;
        int line = 0;
        int[] opened = new int[100];
        String[] heads = new String[100];
        for (String row : code.split("\n")) {
            line++;
            for (char c : row.toCharArray()) {
                if (c == '{') {
                    opened[depth] = line;
                    heads[depth] = row.trim();
                    depth++;
                } else if (c == '}') {
                    depth--;
                    boolean isClass = heads[depth].contains("class ");
                    if (!isClass && line - opened[depth] > 60) refuse("too long: " + heads[depth]);
                }
            }
        }
    }

    public static void main(String[] args) throws Exception {
        checkFace();
        checkText(Files.readString(Path.of("src/main/java/PeckYard.java")));
        System.out.println(wrong == 0 ? "all rules that can be seen are kept" : wrong + " rules are broken");
        if (wrong != 0) System.exit(1);
    }
}
