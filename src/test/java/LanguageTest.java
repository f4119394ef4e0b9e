import java.lang.reflect.Field;
import java.lang.reflect.Member;
import java.lang.reflect.Method;
import java.lang.reflect.Modifier;
import java.nio.charset.StandardCharsets;
import java.nio.file.Files;
import java.nio.file.Paths;
import java.util.ArrayList;
import java.util.Arrays;
import java.util.List;
import java.util.TreeSet;
import java.util.regex.Matcher;
import java.util.regex.Pattern;

/** The face of the class and those rules of LANGUAGE.md that can be seen from the source or by reflection. */
public final class LanguageTest {
    private static final String FACE = "type(int,int)int wipe(int)int undo(int)int fault(int)int accent(int,int)int"
            + " person(int,int)int hire(int,int,int)int back()int read(int)int at(int,int,int)int"
            + " drawer(int,int,int)int becomes(int)int astray()int crowd()int dress(int,int,int,int)int home(int)int"
            + " tray(int)int refuse(int)int hear(int,int,int,int)int forget()int never()int was(int,int)int ask(int)int"
            + " custom(int,int,int)long year(int,int,int)int sheet(int,int,int)int lose(int)int lay(int,int,int,int)int"
            + " get(int,int,int)int copy(int,int,int,int,int)int write(int,int)int count(int)int digest()long";
    private static int wrong = 0;

    public static void main(String[] args) throws Exception {
        face();
        inside();
        source();
        System.out.println(wrong == 0 ? "the class keeps to its language" : wrong + " faults");
        if (wrong != 0) {
            System.exit(1);
        }
    }

    private static void must(boolean holds, String what) {
        if (!holds) {
            wrong++;
            System.out.println(what);
        }
    }

    private static void face() {
        Class<?> c = AccentShop.class;
        must(Modifier.isPublic(c.getModifiers()) && Modifier.isFinal(c.getModifiers()), "not public and final");
        must(c.getDeclaredConstructors().length == 1 && c.getConstructors().length == 1
                && c.getConstructors()[0].getParameterCount() == 0, "not just the public constructor");
        TreeSet<String> due = new TreeSet<>(Arrays.asList(FACE.split(" ")));
        TreeSet<String> there = new TreeSet<>();
        TreeSet<String> publicNames = new TreeSet<>();
        for (Method m : c.getDeclaredMethods()) {
            if (Modifier.isPublic(m.getModifiers())) {
                List<String> types = new ArrayList<>();
                for (Class<?> type : m.getParameterTypes()) {
                    types.add(type.getName());
                }
                there.add(m.getName() + "(" + String.join(",", types) + ")" + m.getReturnType().getName());
                publicNames.add(m.getName());
            }
        }
        must(there.equals(due), "the public methods are " + there);
        for (Method m : c.getDeclaredMethods()) {
            must(Modifier.isPublic(m.getModifiers()) || !publicNames.contains(m.getName()), "private " + m);
        }
        TreeSet<String> constants = new TreeSet<>();
        for (Field f : c.getFields()) {
            constants.add(f.getName());
        }
        must(constants.equals(new TreeSet<>(Arrays.asList("NONE", "BAD", "NOT", "FULL"))), "constants " + constants);
        privateOrPublic(c.getDeclaredMethods());
        privateOrPublic(c.getDeclaredFields());
    }

    private static void privateOrPublic(Member[] members) {
        for (Member m : members) {
            must(m.isSynthetic() || Modifier.isPrivate(m.getModifiers()) || Modifier.isPublic(m.getModifiers()),
                    "visible to the package: " + m);
        }
    }

    private static void inside() {
        Class<?>[] classes = AccentShop.class.getDeclaredClasses();
        must(classes.length <= 11, "too many classes");
        List<Class<?>> all = new ArrayList<>(Arrays.asList(classes));
        all.add(AccentShop.class);
        for (Class<?> c : classes) {
            must(Modifier.isStatic(c.getModifiers()) && Modifier.isPrivate(c.getModifiers()), "not private static: " + c);
        }
        for (Class<?> c : all) {
            int fields = 0;
            for (Field f : c.getDeclaredFields()) {
                boolean isStatic = Modifier.isStatic(f.getModifiers());
                must(!isStatic || Modifier.isFinal(f.getModifiers()), "static and not final: " + f);
                fields += isStatic ? 0 : 1;
            }
            must(fields <= 20, "too many fields in " + c);
            for (Method m : c.getDeclaredMethods()) {
                must(m.getParameterCount() <= 7, "too many parameters: " + m);
            }
        }
    }

    private static void source() throws Exception {
        byte[] bytes = Files.readAllBytes(Paths.get("src/main/java/AccentShop.java"));
        for (byte b : bytes) {
            must(b > 0, "a sign beyond 127");
        }
        String code = new String(bytes, StandardCharsets.US_ASCII)
                .replaceAll("(?s)/\\*.*?\\*/", " ").replaceAll("//[^\n]*", " ")
                .replaceAll("\"[^\"]*\"", "\"\"").replaceAll("'[^']'", "0");
        String[] words = {"throw", "throws", "try", "catch", "finally", "synchronized", "assert", "package", "import",
            "protected", "volatile", "native", "Object", "Thread", "Random", "equals", "hashCode", "toString", "values",
            "addExact", "multiplyExact", "toIntExact", "double", "float", "var"};
        for (String word : words) {
            must(!Pattern.compile("\\b" + word + "\\b").matcher(code).find(), "the word " + word);
        }
        must(!code.contains("->") && !code.contains("::"), "a lambda or a method reference");
        must(!Pattern.compile("\\bstatic\\s*\\{").matcher(code).find(), "a static initialiser");
        must(!Pattern.compile("\\bwhile\\b").matcher(code).find(), "a loop without a counter of its own");
        Matcher library = Pattern.compile("\\b(Math|Integer|Long|System|Arrays)\\.(\\w+)").matcher(code);
        while (library.find()) {
            String used = library.group(1) + "." + library.group(2);
            must(Arrays.asList("Math.abs", "Integer.bitCount", "System.arraycopy").contains(used), "the call " + used);
        }
        methodLengths(code);
    }

    private static void methodLengths(String code) {
        String[] lines = code.split("\n");
        int start = -1;
        String indent = "";
        for (int i = 0; i < lines.length; i++) {
            Matcher m = Pattern.compile("^( {4}| {8})(?!return|for|if|switch|else)[A-Za-z].*\\).*\\{$").matcher(lines[i]);
            if (start < 0 && m.find()) {
                start = i;
                indent = m.group(1);
            } else if (start >= 0 && lines[i].equals(indent + "}")) {
                must(i - start + 1 <= 60, "a method of " + (i - start + 1) + " lines: " + lines[start].trim());
                start = -1;
            }
        }
    }
}
