import java.io.IOException;
import java.lang.reflect.Field;
import java.lang.reflect.Method;
import java.lang.reflect.Modifier;
import java.nio.file.Files;
import java.nio.file.Path;
import java.util.Arrays;
import java.util.Set;
import java.util.TreeSet;
import java.util.regex.Matcher;
import java.util.regex.Pattern;

/** The rules of LANGUAGE.md that can be seen in the source and in the class; the number is the rule's. */
public final class LanguageTest {
    private static final Checks CHECKS = new Checks();

    private static final String[] FACE = {"feed(int, int, int, int, int)", "end(int)", "alter(int, int)", "check()",
        "copy(int)", "tape(int)", "secret(int, long, long, long, long)", "known(int, long, long, long, long)",
        "nonce(int, long, long, long, long)", "size(int)", "limit(int)", "draw(int)", "noise(int, int)", "put(int)",
        "join(int)", "leave(int, int)", "submit(int, int)", "go(int)", "ended(int)", "node(int, int)",
        "key(int, int, int)", "delivered(int, int, int)", "air(int, int)", "count(int)"};

    private LanguageTest() {
    }

    public static void main(String[] args) throws IOException {
        face();
        nestedClasses();
        limits();
        String source = Files.readString(Path.of(System.getProperty("source", "src/main/java/WirelessCell.java")));
        words(withoutCommentsAndTexts(source));
        library(withoutCommentsAndTexts(source));
        methodLengths(source);
        CHECKS.finish();
    }

    private static void face() {
        Class<?> type = WirelessCell.class;
        CHECKS.holds("1: public and final", Modifier.isPublic(type.getModifiers())
                && Modifier.isFinal(type.getModifiers()));
        CHECKS.due("1: one constructor", type.getDeclaredConstructors().length, 1);
        CHECKS.due("1: public", type.getConstructors().length, 1);
        Set<String> shown = new TreeSet<>();
        Set<String> names = new TreeSet<>();
        for (Method method : type.getDeclaredMethods()) {
            if (Modifier.isPrivate(method.getModifiers())) {
                continue;
            }
            CHECKS.holds("1: " + method + " is public, answers int", Modifier.isPublic(method.getModifiers())
                    && method.getReturnType() == int.class && !Modifier.isStatic(method.getModifiers()));
            String types = Arrays.toString(method.getParameterTypes());
            shown.add(method.getName() + "(" + types.substring(1, types.length() - 1) + ")");
            names.add(method.getName());
        }
        CHECKS.holds("1: the document's methods: " + shown, shown.equals(new TreeSet<>(Arrays.asList(FACE))));
        for (Field field : type.getDeclaredFields()) {
            CHECKS.holds("1: " + field, Modifier.isPrivate(field.getModifiers()) || field.getName().equals("NONE"));
        }
        for (Class<?> any : allClasses()) {
            for (Method method : any.getDeclaredMethods()) {
                boolean shows = any == type && Modifier.isPublic(method.getModifiers());
                CHECKS.holds("1: the name of " + method, shows || !names.contains(method.getName()));
            }
        }
    }

    private static Class<?>[] allClasses() {
        Class<?>[] inside = WirelessCell.class.getDeclaredClasses();
        Class<?>[] all = Arrays.copyOf(inside, inside.length + 1);
        all[inside.length] = WirelessCell.class;
        return all;
    }

    private static void nestedClasses() {
        for (Class<?> inside : WirelessCell.class.getDeclaredClasses()) {
            int m = inside.getModifiers();
            CHECKS.holds("2: " + inside + " is static", Modifier.isStatic(m));
            CHECKS.holds("1: " + inside + " is not shown", !Modifier.isPublic(m) && !Modifier.isProtected(m));
            CHECKS.due("2: " + inside + " has none inside", inside.getDeclaredClasses().length, 0);
        }
    }

    private static void limits() {
        CHECKS.holds("11: at most twelve classes", allClasses().length <= 12);
        for (Class<?> type : allClasses()) {
            int fields = 0;
            for (Field field : type.getDeclaredFields()) {
                boolean isStatic = Modifier.isStatic(field.getModifiers());
                fields += isStatic ? 0 : 1;
                CHECKS.holds("5: " + field + " is final", !isStatic || Modifier.isFinal(field.getModifiers()));
            }
            CHECKS.holds("11: fields of " + type + ": " + fields, fields <= 20);
            for (Method method : type.getDeclaredMethods()) {
                CHECKS.holds("11: parameters of " + method, method.getParameterCount() <= 7);
            }
        }
    }

    private static String withoutCommentsAndTexts(String source) {
        return source.replaceAll("(?s)/\\*.*?\\*/", " ").replaceAll("//[^\n]*", " ").replaceAll("\"[^\"\n]*\"", "text");
    }

    private static void words(String code) {
        String[] never = {"\\bthrow\\b", "\\bthrows\\b", "\\btry\\b", "\\bcatch\\b", "\\bsynchronized\\b",
            "\\bassert\\b", "->", "::", "\\bpackage\\b", "\\bvar\\b", "\\bvolatile\\b", "\\btransient\\b", "@",
            "\\bhashCode\\b", "\\bequals\\b", "\\btoString\\b", "\\bwhile \\(true\\)", "\\bfor \\(;;\\)",
            "\\bstatic \\{", "\\bprotected\\b", "Exact\\b", "\\bdouble\\b", "\\bfloat\\b"};
        for (String word : never) {
            CHECKS.holds("6: " + word, !Pattern.compile(word).matcher(code).find());
        }
        Matcher imports = Pattern.compile("import ([^;]*);").matcher(code);
        while (imports.find()) {
            CHECKS.holds("4: import " + imports.group(1), imports.group(1).equals("java.util.Arrays"));
        }
        CHECKS.holds("12: objects are made by constructors alone", newInMethods(code) == 0);
    }

    /** How many objects are made elsewhere than in a field's initialiser or in a loop of a constructor. */
    private static int newInMethods(String code) {
        int found = 0;
        for (String line : code.split("\n")) {
            boolean inField = line.matches(" +(private )?final [A-Za-z]+(\\[\\])* [A-Za-z]+ = new .*");
            boolean inConstructor = line.matches(" +[A-Za-z]+\\[[a-z]\\] = new [A-Z][a-z]+\\(k?\\);");
            found += line.contains("new ") && !inField && !inConstructor ? 1 : 0;
        }
        return found;
    }

    private static void library(String code) {
        Matcher calls = Pattern.compile("\\b(System|Arrays|Math|Integer|Long|String|List)\\.([A-Za-z]+)").matcher(code);
        Set<String> allowed = Set.of("System.arraycopy", "Arrays.fill", "Math.min", "Math.floorMod");
        while (calls.find()) {
            CHECKS.holds("4: " + calls.group(), allowed.contains(calls.group()));
        }
    }

    private static void methodLengths(String source) {
        String[] lines = source.split("\n");
        for (int i = 0; i < lines.length; i++) {
            CHECKS.holds("a line is too long: " + lines[i], lines[i].length() <= 120);
            Matcher begins = Pattern.compile("( +)(?!if|for|while|switch|\\})[A-Za-z].*\\) \\{").matcher(lines[i]);
            if (begins.matches()) {
                int last = Arrays.asList(lines).subList(i, lines.length).indexOf(begins.group(1) + "}");
                CHECKS.holds("11: the length of " + lines[i], last >= 0 && last <= 60);
            }
        }
    }
}
