import java.io.IOException;
import java.lang.reflect.Constructor;
import java.lang.reflect.Field;
import java.lang.reflect.Method;
import java.lang.reflect.Modifier;
import java.nio.file.Files;
import java.nio.file.Path;
import java.util.ArrayList;
import java.util.Arrays;
import java.util.List;
import java.util.Set;
import java.util.TreeSet;
import java.util.regex.Matcher;
import java.util.regex.Pattern;

/** The public face, and what of ../shared/LANGUAGE.md can be told from the source and the compiled class. */
public final class LanguageTests {
    private static final String[] FACE = {"season III", "ofSeason II", "figure II", "ofFigure I", "step III",
        "ofStep II", "trees II", "visitor III", "ofVisitor II", "change III", "become II", "as II", "feed LI",
        "text I", "law IIII", "years I", "loose I", "then II", "falls ", "wet II", "loudFor III", "everyFor II",
        "needless I", "wanted II", "which II", "stair I", "exact ", "house II", "power I", "gait I", "odds III",
        "seed I", "voice III", "trace I", "sheet III", "put III", "move IIIII", "talls I", "judge I", "image ",
        "restore ", "tell I", "check ", "count I", "told I"};
    private static final String[] FORBIDDEN = {"throw", "throws", "try", "catch", "finally", "import", "package",
        "synchronized", "assert", "native", "volatile", "transient", "var", "yield", "protected", "->", "::", "equals",
        "hashCode", "toString", "System.out", "Random", "nanoTime", "currentTimeMillis", "Exact("};

    private LanguageTests() {
    }

    public static void main(String[] args) throws IOException {
        face();
        classes();
        source(Files.readString(Path.of("src/main/java/BronzeDown.java")));
        Due.end("LanguageTests");
    }

    private static void face() {
        Class<?> c = BronzeDown.class;
        Due.dueSo("public and final", Modifier.isPublic(c.getModifiers()) && Modifier.isFinal(c.getModifiers()));
        Set<String> open = new TreeSet<>();
        for (Method m : c.getDeclaredMethods()) {
            if (!Modifier.isPrivate(m.getModifiers())) {
                Due.dueSo(m.getName() + " is public and gives an int", m.getModifiers() == Modifier.PUBLIC
                    && m.getReturnType() == int.class);
                open.add(signature(m));
            }
        }
        Due.dueSo("the face: " + open, open.equals(new TreeSet<>(Arrays.asList(FACE))));
        for (Field f : c.getDeclaredFields()) {
            Due.dueSo(f.getName() + " is private", Modifier.isPrivate(f.getModifiers()));
        }
        Constructor<?>[] made = c.getDeclaredConstructors();
        Due.dueSo("one constructor", made.length == 1 && made[0].getParameterCount() == 0
            && made[0].getModifiers() == Modifier.PUBLIC);
    }

    private static String signature(Method m) {
        StringBuilder s = new StringBuilder(m.getName()).append(' ');
        for (Class<?> p : m.getParameterTypes()) {
            s.append(p == int.class ? "I" : p == long.class ? "L" : "?");
        }
        return s.toString();
    }

    private static void classes() {
        List<Class<?>> all = new ArrayList<>(Arrays.asList(BronzeDown.class.getDeclaredClasses()));
        Due.dueSo("some twelve classes", all.size() + 1 <= 12);
        Set<String> names = new TreeSet<>();
        for (String signature : FACE) {
            names.add(signature.substring(0, signature.indexOf(' ')));
        }
        for (Class<?> inside : all) {
            Due.dueSo(inside + " is private and static", Modifier.isPrivate(inside.getModifiers())
                && Modifier.isStatic(inside.getModifiers()));
            Due.dueSo(inside + " has none inside", inside.getDeclaredClasses().length == 0);
            for (Method m : inside.getDeclaredMethods()) {
                Due.dueSo(m + " has no name of the face", !names.contains(m.getName()));
            }
        }
        all.add(BronzeDown.class);
        for (Class<?> c : all) {
            int fields = 0;
            for (Field f : c.getDeclaredFields()) {
                boolean isStatic = Modifier.isStatic(f.getModifiers());
                fields += isStatic ? 0 : 1;
                Due.dueSo(f + " is final, if static", !isStatic || Modifier.isFinal(f.getModifiers()));
            }
            Due.dueSo(c + " has some twenty fields", fields <= 20);
            for (Method m : c.getDeclaredMethods()) {
                Due.dueSo(m + " has seven parameters at most", m.getParameterCount() <= 7);
                boolean isHidden = Modifier.isPrivate(m.getModifiers());
                Due.dueSo(m + " is not a hidden one with a name of the face", !isHidden || !names.contains(m.getName()));
            }
        }
    }

    private static void source(String source) {
        String code = source.replaceAll("(?s)/\\*.*?\\*/", "").replaceAll("//[^\n]*", "").replaceAll("'[^']*'", "0");
        for (String word : FORBIDDEN) {
            boolean isWord = Character.isLetter(word.charAt(0)) && Character.isLetter(word.charAt(word.length() - 1));
            Pattern p = Pattern.compile(isWord ? "\\b" + Pattern.quote(word) + "\\b" : Pattern.quote(word));
            Due.dueSo("no " + word, !p.matcher(code).find());
        }
        Due.dueSo("no texts", code.indexOf('"') < 0);
        Due.dueSo("signs are 1 to 127", source.chars().allMatch(sign -> sign > 0 && sign < 128));
        made(code);
        lengths(code);
    }

    /** All rows and objects are made as the object is made. */
    private static void made(String code) {
        Matcher m = Pattern.compile("(?m)^.*\\bnew\\b.*$").matcher(code);
        while (m.find()) {
            String line = m.group().trim();
            boolean isField = line.startsWith("private final ");
            boolean isConstructors = line.equals("sheets[i] = new Sheet();")
                || line.equals("numbers = new int[Math.max(room, 0)];");
            Due.dueSo("made in a constructor: " + line, isField || isConstructors);
        }
    }

    private static void lengths(String code) {
        String[] lines = code.split("\n");
        int from = -1;
        for (int i = 0; i < lines.length; i++) {
            boolean begins = lines[i].matches(" {4}(public|private)[^;=]*\\(.*\\{| {8}[a-zA-Z][^;=]*\\(.*\\) \\{")
                && !lines[i].matches(" *(if|for|while|switch|else|do)\\b.*");
            if (begins) {
                from = i;
            }
            if (from >= 0 && lines[i].equals(lines[from].replaceAll("\\S.*", "") + "}")) {
                Due.dueSo("sixty lines at most: " + lines[from].trim(), i - from + 1 <= 60);
                from = -1;
            }
        }
    }
}
