import java.lang.reflect.Constructor;
import java.lang.reflect.Field;
import java.lang.reflect.Method;
import java.lang.reflect.Modifier;
import java.nio.file.Files;
import java.nio.file.Path;
import java.util.Set;
import java.util.TreeSet;
import java.util.regex.Matcher;
import java.util.regex.Pattern;

/** The rules of LANGUAGE.md that can be looked up, and the document's face. */
public final class LanguageTest {
    private static final Check CHECK = new Check("LanguageTest");
    private static final Set<String> FACE = new TreeSet<>(Set.of(
            "int field(int)", "int bowler(int)", "int batter(int,int)", "int type(int)", "int clear()",
            "int read()", "int hits(int)", "int sends(int)", "int row(int,int)", "int undo()",
            "int of(int,int)", "int worth(int,int)", "int score(int)", "int order(int,int)",
            "int against(int,int)", "int chance(int,int)", "int mean(int)", "int send(int)",
            "int note(int,int,int)", "int mark(int,int,int,int)", "int forget(int)", "int is()",
            "int look()", "int kinds(int)", "int ask(int)", "int captains(int)", "int days(int,int)",
            "long part(int)", "int image(int)", "int from(int)", "int status(int)", "int count(int)",
            "long digest()"));

    public static void main(String[] args) throws Exception {
        String source = Files.readString(Path.of("src/main/java/PostRounders.java"));
        String code = source.replaceAll("(?s)/\\*.*?\\*/", " ").replaceAll("//[^\n]*", " ")
                .replaceAll("\"[^\"]*\"", "\"\"");
        face();
        nested();
        words(code);
        methodLengths(code);
        CHECK.that("the source is of signs 1 to 127", source.chars().allMatch(c -> c > 0 && c < 128));
        CHECK.end();
    }

    private static void face() {
        Class<?> c = PostRounders.class;
        CHECK.that("public final class", Modifier.isPublic(c.getModifiers()) && Modifier.isFinal(c.getModifiers()));
        Set<String> open = new TreeSet<>();
        Set<String> openNames = new TreeSet<>();
        for (Method m : c.getDeclaredMethods()) {
            if (!Modifier.isPrivate(m.getModifiers()) && !m.isSynthetic()) {
                StringBuilder b = new StringBuilder(m.getReturnType() + " " + m.getName() + "(");
                for (Class<?> p : m.getParameterTypes()) {
                    b.append(b.charAt(b.length() - 1) == '(' ? "" : ",").append(p);
                }
                open.add(b.append(")").toString());
                openNames.add(m.getName());
                CHECK.that("public " + m, Modifier.isPublic(m.getModifiers()) && !Modifier.isStatic(m.getModifiers()));
            }
        }
        CHECK.that("the face is " + FACE + ", not " + open, open.equals(FACE));
        privateNames(c, openNames);
        for (Class<?> inside : c.getDeclaredClasses()) {
            privateNames(inside, openNames);
        }
        Constructor<?>[] made = c.getDeclaredConstructors();
        CHECK.that("one public constructor", made.length == 1 && made[0].getParameterCount() == 0
                && Modifier.isPublic(made[0].getModifiers()));
        Set<String> constants = new TreeSet<>();
        for (Field f : c.getDeclaredFields()) {
            if (!Modifier.isPrivate(f.getModifiers())) {
                constants.add(f.getName());
            }
        }
        CHECK.that("constants " + constants, constants.equals(Set.of("NONE", "BAD", "NO", "FULL")));
    }

    private static void privateNames(Class<?> c, Set<String> openNames) {
        for (Method m : c.getDeclaredMethods()) {
            CHECK.that("seven parameters at most: " + m, m.getParameterCount() <= 7);
            if (c != PostRounders.class || Modifier.isPrivate(m.getModifiers())) {
                CHECK.that("a name of its own: " + m, !openNames.contains(m.getName()));
            }
        }
    }

    private static void nested() {
        Class<?>[] inside = PostRounders.class.getDeclaredClasses();
        CHECK.that("twelve classes at most", inside.length + 1 <= 12);
        for (Class<?> c : inside) {
            CHECK.that("static: " + c, Modifier.isStatic(c.getModifiers()));
            CHECK.that("not public: " + c, !Modifier.isPublic(c.getModifiers()));
            fields(c);
        }
        fields(PostRounders.class);
    }

    private static void fields(Class<?> c) {
        int own = 0;
        for (Field f : c.getDeclaredFields()) {
            if (Modifier.isStatic(f.getModifiers())) {
                CHECK.that("final: " + f, Modifier.isFinal(f.getModifiers()));
            } else {
                own++;
            }
        }
        CHECK.that("twenty fields at most: " + c, own <= 20);
    }

    private static void words(String code) {
        String[] forbidden = {"throw", "throws", "try", "catch", "synchronized", "assert", "package", "native",
            "volatile", "transient", "hashCode", "toString", "Object", "Random", "Thread", "System\\.(?!arraycopy)",
            "\\w+Exact", "protected", "var", "yield"};
        for (String word : forbidden) {
            CHECK.that("no " + word, !Pattern.compile("\\b" + word + (word.endsWith(")") ? "" : "\\b")).matcher(code).find());
        }
        CHECK.that("no lambda", !code.contains("->"));
        CHECK.that("no method reference", !code.contains("::"));
        CHECK.that("no static block", !Pattern.compile("static\\s*\\{").matcher(code).find());
        Matcher imports = Pattern.compile("import\\s+([\\w.*]+)").matcher(code);
        while (imports.find()) {
            CHECK.that("import " + imports.group(1), Set.of("java.util.Arrays", "java.util.ArrayList", "java.util.List")
                    .contains(imports.group(1)));
        }
    }

    /** Methods stand at one or two steps of four blanks; each ends at its own brace. */
    private static void methodLengths(String code) {
        String[] lines = code.split("\n");
        for (int step = 4; step <= 8; step += 4) {
            String blanks = " ".repeat(step);
            int begun = -1;
            for (int k = 0; k < lines.length; k++) {
                if (lines[k].matches(blanks + "\\S.*\\) \\{")) {
                    begun = k;
                }
                if (lines[k].equals(blanks + "}") && begun >= 0) {
                    CHECK.that("sixty lines at most: " + lines[begun].trim(), k - begun < 60);
                    begun = -1;
                }
            }
        }
    }
}
