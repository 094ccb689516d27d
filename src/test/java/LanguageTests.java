import java.io.IOException;
import java.nio.file.Files;
import java.nio.file.Path;
import java.util.Arrays;
import java.util.HashSet;
import java.util.Set;
import java.util.TreeSet;
import java.util.regex.Matcher;
import java.util.regex.Pattern;

/** The rules of LANGUAGE.md that can be seen in the words of the source, and the face of the class. */
public final class LanguageTests {
    private static final Path SOURCE = Path.of("src/main/java/ForgiveCamp.java");
    private static final Set<String> NONE_OF = new HashSet<>(Arrays.asList("throw", "throws", "try", "catch", "synchronized",
        "assert", "import", "package", "protected", "instanceof", "record", "enum", "interface", "yield", "var",
        "volatile", "transient", "native", "strictfp", "double", "float", "equals", "hashCode", "toString"));
    private static final Set<String> LIBRARY = new HashSet<>(Arrays.asList("Math.abs", "Math.max", "Math.min",
        "Integer.bitCount", "System.arraycopy"));
    private static int wrong = 0;

    private static void need(boolean right, String what) {
        if (!right) {
            wrong++;
            System.out.println("LanguageTests: " + what);
        }
    }

    private static String withoutCommentsAndTexts(String source) {
        return source.replaceAll("(?s)/\\*.*?\\*/", "").replaceAll("//[^\n]*", "")
            .replaceAll("\"[^\"\n]*\"", "\"\"").replaceAll("'.'", "0");
    }

    private static void words(String code) {
        Matcher m = Pattern.compile("[A-Za-z]+").matcher(code);
        while (m.find()) need(!NONE_OF.contains(m.group()), "the word " + m.group());
        Matcher calls = Pattern.compile("\\b(Math|Integer|Long|System|Arrays|String|Character)\\.(\\w+)").matcher(code);
        while (calls.find()) need(LIBRARY.contains(calls.group()), "the call " + calls.group());
        need(!code.contains("->") && !code.contains("::"), "a lambda");
        Matcher made = Pattern.compile("static class|\\bclass\\b").matcher(code);
        int classes = 0;
        while (made.find()) classes++;
        need(classes <= 12, classes + " classes");
    }

    private static void lengths(String source) {
        String[] lines = source.split("\n");
        int begun = -1;
        for (int i = 0; i < lines.length; i++) {
            boolean opens = lines[i].matches("^(    |        )[a-zA-Z].*\\) \\{$") && !lines[i].matches(".*\\b(if|for|while|switch)\\b.*");
            if (opens) begun = i;
            if (begun >= 0 && lines[i].matches("^(    |        )\\}$")) {
                need(i - begun < 60, "a method of " + (i - begun + 1) + " lines at " + (begun + 1));
                begun = -1;
            }
            need(lines[i].chars().allMatch(c -> c > 0 && c < 128), "a sign beyond 127 in line " + (i + 1));
        }
    }

    private static void face() {
        Set<String> names = new TreeSet<>();
        for (java.lang.reflect.Method m : ForgiveCamp.class.getDeclaredMethods()) {
            int how = m.getModifiers();
            if (java.lang.reflect.Modifier.isPublic(how)) names.add(m.getName());
            else need(java.lang.reflect.Modifier.isPrivate(how), m + " can be seen");
        }
        need(names.size() == 60, names.size() + " public methods");
        for (java.lang.reflect.Field f : ForgiveCamp.class.getDeclaredFields()) {
            boolean isPublic = java.lang.reflect.Modifier.isPublic(f.getModifiers());
            need(isPublic == f.getName().equals("NONE") && (isPublic || java.lang.reflect.Modifier.isPrivate(f.getModifiers())), f + " can be seen");
        }
        need(ForgiveCamp.class.getDeclaredConstructors().length == 1, "more than one constructor");
        for (Class<?> c : ForgiveCamp.class.getDeclaredClasses()) {
            need(java.lang.reflect.Modifier.isStatic(c.getModifiers()), c + " is not static");
            for (java.lang.reflect.Method m : c.getDeclaredMethods()) need(!names.contains(m.getName()), m + " has a public name");
            for (java.lang.reflect.Field f : c.getDeclaredFields()) {
                boolean fixed = !java.lang.reflect.Modifier.isStatic(f.getModifiers()) || java.lang.reflect.Modifier.isFinal(f.getModifiers());
                need(fixed, f + " is static and changes");
            }
        }
        for (java.lang.reflect.Method m : ForgiveCamp.class.getDeclaredMethods()) {
            need(!java.lang.reflect.Modifier.isPrivate(m.getModifiers()) || !names.contains(m.getName()), m + " has a public name");
        }
    }

    private static void sizes(Class<?> type) {
        int fields = 0;
        for (java.lang.reflect.Field f : type.getDeclaredFields()) {
            if (!java.lang.reflect.Modifier.isStatic(f.getModifiers())) fields++;
        }
        need(fields <= 20, type + " has " + fields + " fields");
        for (java.lang.reflect.Method m : type.getDeclaredMethods()) {
            need(m.getParameterCount() <= 7, m + " takes more than seven");
        }
    }

    public static void main(String[] args) throws IOException {
        String source = Files.readString(SOURCE);
        words(withoutCommentsAndTexts(source));
        lengths(source);
        face();
        sizes(ForgiveCamp.class);
        for (Class<?> c : ForgiveCamp.class.getDeclaredClasses()) sizes(c);
        if (wrong > 0) System.exit(1);
        System.out.println("LanguageTests: all is as due");
    }
}
