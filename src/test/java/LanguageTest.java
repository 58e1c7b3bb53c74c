import java.io.IOException;
import java.lang.reflect.Field;
import java.lang.reflect.Method;
import java.lang.reflect.Modifier;
import java.nio.file.Files;
import java.nio.file.Path;
import java.util.ArrayList;
import java.util.Arrays;
import java.util.List;
import java.util.Set;
import java.util.TreeSet;
import java.util.regex.Matcher;
import java.util.regex.Pattern;

/** The rules of LANGUAGE.md that can be looked at by machine; run from the project's folder. */
public final class LanguageTest {
    private static final String[] FACE = {
        "int status()", "int feed(int,int,int,int,int)", "int load(int)", "int fault(int)", "int many(int)",
        "long code(int)", "int tagOf(int)", "int breadth(int)", "int key(int,int)", "int far(int,long)",
        "int measure(int,int,int)", "int find(long)", "int add(long)", "int strike(int)", "int flip(int,int)",
        "int swap(int,int)", "int tag(int,int)", "int split(int,int)", "int merge(int)", "int open()", "int undo()",
        "int mark()", "int back()", "int budget(long,int,int)", "int cost(long,int,int)", "int near(long,int,int)",
        "int ranked(long,int)", "int grown(long,int,int)", "int apart(long,int,int,int)", "int pairs(int)",
        "int pair(int,int,int)", "int joined(int)", "int closest(int)", "int clusters(int,int)",
        "int cluster(int,int,int)", "long vote(int)", "int like(long,long)", "int ones(int)", "int telling()",
        "int alike(int,int)", "int spread(int,int)", "int parted(int,int)", "int bestPart(int)"
    };
    private static final String[] BARRED = {
        "throw", "throws", "try", "catch", "finally", "synchronized", "assert", "->", "::", "HashMap", "Object",
        "Exception", "Exact", "MAX_VALUE", "MIN_VALUE", "instanceof", "Random", "Thread", "File", "record", "var",
        "Math\\.sqrt", "Integer\\.valueOf", "String\\.valueOf", "new String", "System\\.(?!arraycopy)"
    };
    private static int wrong = 0;

    public static void main(String[] args) throws IOException {
        face();
        classes();
        text(Files.readString(Path.of("src/main/java/AlikeStore.java")));
        System.out.println("LanguageTest: " + wrong + " rules broken");
        if (wrong != 0) {
            System.exit(1);
        }
    }

    private static void rule(boolean kept, String what) {
        if (!kept) {
            wrong++;
            System.out.println(what);
        }
    }

    /** Rule 1. */
    private static void face() {
        Set<String> due = new TreeSet<>(Arrays.asList(FACE));
        Set<String> open = new TreeSet<>();
        Set<String> names = new TreeSet<>();
        for (Method method : AlikeStore.class.getDeclaredMethods()) {
            if (!Modifier.isPrivate(method.getModifiers())) {
                open.add(signature(method));
                names.add(method.getName());
            }
        }
        rule(open.equals(due), "the face is " + open + ", due is " + due);
        for (Class<?> type : all()) {
            for (Method method : type.getDeclaredMethods()) {
                boolean ofFace = type == AlikeStore.class && !Modifier.isPrivate(method.getModifiers());
                rule(ofFace || !names.contains(method.getName()), method + " bears the name of a public one");
            }
        }
        for (Field field : AlikeStore.class.getDeclaredFields()) {
            boolean hidden = Modifier.isPrivate(field.getModifiers());
            rule(hidden || field.getName().equals("NONE"), field + " isn't private");
        }
        rule(Modifier.isFinal(AlikeStore.class.getModifiers()), "the class isn't final");
    }

    private static String signature(Method method) {
        List<String> types = new ArrayList<>();
        for (Class<?> type : method.getParameterTypes()) {
            types.add(type.getName());
        }
        return method.getReturnType().getName() + " " + method.getName() + "(" + String.join(",", types) + ")";
    }

    private static List<Class<?>> all() {
        List<Class<?>> all = new ArrayList<>(Arrays.asList(AlikeStore.class.getDeclaredClasses()));
        all.add(AlikeStore.class);
        return all;
    }

    /** Rules 2, 5 and 11. */
    private static void classes() {
        rule(all().size() <= 12, "more than 12 classes");
        for (Class<?> type : all()) {
            boolean outer = type == AlikeStore.class;
            rule(outer || Modifier.isStatic(type.getModifiers()), type + " isn't static");
            rule(outer || !Modifier.isPublic(type.getModifiers()), type + " is public");
            int fields = 0;
            for (Field field : type.getDeclaredFields()) {
                boolean still = Modifier.isStatic(field.getModifiers());
                rule(!still || Modifier.isFinal(field.getModifiers()), field + " is static and not final");
                fields += still ? 0 : 1;
            }
            rule(fields <= 20, type + " has " + fields + " fields");
            for (Method method : type.getDeclaredMethods()) {
                rule(method.getParameterCount() <= 7, method + " has more than seven parameters");
            }
        }
    }

    /** Rules 3, 4, 6 and 11. */
    private static void text(String source) {
        String code = source.replaceAll("(?s)/\\*.*?\\*/", "").replaceAll("//[^\n]*", "");
        for (String word : BARRED) {
            String pattern = Character.isLetter(word.charAt(0)) ? "\\b" + word + (word.endsWith(")") ? "" : "\\b") : word;
            Matcher matcher = Pattern.compile(pattern).matcher(code);
            rule(!matcher.find(), "'" + word + "' stands in the class");
        }
        Matcher imports = Pattern.compile("(?m)^import ([^;]+);").matcher(code);
        while (imports.find()) {
            rule(imports.group(1).equals("java.util.Arrays"), "import of " + imports.group(1));
        }
        String[] lines = source.split("\n");
        for (int i = 0; i < lines.length; i++) {
            rule(lines[i].length() <= 120, "line " + (i + 1) + " is longer than 120");
            if (lines[i].matches(" {4,8}\\w.*\\) \\{")) {
                int end = i;
                String close = lines[i].replaceAll("\\S.*", "") + "}";
                while (!lines[end].equals(close)) {
                    end++;
                }
                rule(end - i <= 60, "the method at line " + (i + 1) + " is longer than 60 lines");
            }
        }
    }
}
