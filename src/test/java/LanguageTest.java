import java.lang.reflect.Constructor;
import java.lang.reflect.Field;
import java.lang.reflect.Method;
import java.lang.reflect.Modifier;
import java.nio.file.Files;
import java.nio.file.Path;
import java.util.Set;
import java.util.TreeSet;
import java.util.regex.Matcher;
import java.util.regex.Pattern;

/** The public face, and those rules of LANGUAGE.md that can be looked at from outside; run in the project's root. */
public final class LanguageTest {
    private static final String[] FACE = {
        "int sign(int,int)", "int read(int,int)", "int clear(int)", "int at(int,int)", "int set(int,int)",
        "int shows(int,int)", "int type(int)", "int wipe()", "int fault()", "int holds(int)", "int shown(int,int)",
        "int nth(int,int)", "long share(int,int)", "int fills(int,int)", "long filled(int,int)", "int sure(int,int)",
        "int dealt(int,int,boolean)", "int strangest(int)", "long hot(int,int,int)", "long already(int,int,int)",
        "long waits(int)", "long first(int,int,int)", "int agree(int,int,int)", "int twice(int)",
        "int next(int,int,int)", "int sheet(int,int,int)", "int lose(int)", "int put(int,int,int,int)",
        "int get(int,int,int)", "int copy(int,int,int,int,int)", "int write(int,int)", "int count(int)", "long digest()"
    };
    private static final String[] NO_WORDS = {
        "throw", "throws", "try", "catch", "finally", "synchronized", "assert", "import", "package", "volatile",
        "native", "equals", "hashCode", "toString", "double", "float", "System\\.(?!arraycopy)\\w+", "\\w+Exact",
        "static\\s*\\{", "->", "::", "Object", "Thread"
    };
    /** What the class uses of the library; rule 4 leaves more, and whoever uses more looks there first. */
    private static final Set<String> LIBRARY =
            Set.of("Integer.bitCount", "Math.max", "Math.min", "System.arraycopy", "LETTERS.indexOf");
    private static final int MOST_LINES = 60;
    private static final int MOST_FIELDS = 20;
    private static final int MOST_CLASSES = 12;

    public static void main(String[] args) throws Exception {
        documentFace();
        face();
        classesInside();
        source();
        Check.end();
    }

    /** FACE and the constants stand here as the document has them. */
    private static void documentFace() throws Exception {
        String document = Files.readString(Path.of("../shared/DOC.md"));
        Set<String> told = new TreeSet<>();
        Matcher method = Pattern.compile("public ((?:int|long) \\w+)\\(([^)]*)\\);").matcher(document);
        while (method.find()) {
            told.add(method.group(1) + "(" + method.group(2).replaceAll(" \\w+(, )?", ",").replaceAll(",$", "") + ")");
        }
        Check.holds("the document's face is " + told, told.equals(new TreeSet<>(Set.of(FACE))));
        String constants = "NONE = " + RowsOfTwo.NONE + ", BAD = " + RowsOfTwo.BAD + ", NOT = " + RowsOfTwo.NOT
                + ", FULL = " + RowsOfTwo.FULL + ";";
        Check.holds("the document has " + constants, document.contains("public static final int " + constants));
    }

    private static void face() {
        Set<String> due = new TreeSet<>(Set.of(FACE));
        Set<String> found = new TreeSet<>();
        Class<?> face = RowsOfTwo.class;
        for (Method each : face.getDeclaredMethods()) {
            boolean isPublic = Modifier.isPublic(each.getModifiers());
            Check.holds(each + " is public or private", isPublic || Modifier.isPrivate(each.getModifiers()));
            if (isPublic) {
                found.add(each.toString().replaceAll("public |RowsOfTwo\\.", ""));
            }
        }
        Check.holds("the face is " + due + ", not " + found, due.equals(found));
        Check.holds("final", Modifier.isFinal(face.getModifiers()));
        for (Constructor<?> each : face.getDeclaredConstructors()) {
            Check.holds(each + " is the one", each.getParameterCount() == 0 && Modifier.isPublic(each.getModifiers()));
        }
        Set<String> constants = new TreeSet<>();
        for (Field each : face.getDeclaredFields()) {
            if (!Modifier.isPrivate(each.getModifiers())) {
                constants.add(each.getName());
            }
        }
        Check.holds("constants are " + constants, constants.equals(Set.of("NONE", "BAD", "NOT", "FULL")));
    }

    private static void classesInside() {
        Set<String> publicNames = new TreeSet<>();
        for (String each : FACE) {
            publicNames.add(each.replaceAll(".* |\\(.*", ""));
        }
        Check.holds("few classes", RowsOfTwo.class.getDeclaredClasses().length < MOST_CLASSES);
        fewFields(RowsOfTwo.class);
        for (Method each : RowsOfTwo.class.getDeclaredMethods()) {
            Check.holds(each + " has a name of its own",
                    Modifier.isPublic(each.getModifiers()) || !publicNames.contains(each.getName()));
        }
        for (Class<?> inside : RowsOfTwo.class.getDeclaredClasses()) {
            Check.holds(inside + " is static", Modifier.isStatic(inside.getModifiers()));
            Check.holds(inside + " is not public", !Modifier.isPublic(inside.getModifiers()));
            fewFields(inside);
            for (Method each : inside.getDeclaredMethods()) {
                Check.holds(each + " has a name of its own", !publicNames.contains(each.getName()));
                Check.holds(each + " has seven parameters at most", each.getParameterCount() <= 7);
            }
        }
    }

    private static void fewFields(Class<?> of) {
        int fields = 0;
        for (Field each : of.getDeclaredFields()) {
            boolean isStatic = Modifier.isStatic(each.getModifiers());
            Check.holds(each + " is final, if static", !isStatic || Modifier.isFinal(each.getModifiers()));
            fields += isStatic ? 0 : 1;
        }
        Check.holds(of + " has few fields", fields <= MOST_FIELDS);
    }

    private static void source() throws Exception {
        String source = Files.readString(Path.of("src/main/java/RowsOfTwo.java"));
        String bare = source.replaceAll("(?s)/\\*.*?\\*/", "").replaceAll("//[^\n]*", "").replaceAll("\"[^\"\n]*\"", "\"\"");
        for (String word : NO_WORDS) {
            String bounded = word.matches("\\w+") ? "\\b" + word + "\\b" : word;
            Check.holds("no " + word, !Pattern.compile(bounded).matcher(bare).find());
        }
        library(bare);
        int opened = 0;
        String[] lines = source.split("\n");
        for (int i = 0; i < lines.length; i++) {
            if (lines[i].matches("( {4}| {8})[a-z].*\\) \\{")) {
                opened = i;
            }
            if (lines[i].matches("( {4}| {8})\\}")) {
                Check.holds("short up to line " + (i + 1), opened == 0 || i - opened < MOST_LINES);
                opened = 0;
            }
            Check.holds("line " + (i + 1) + " is not too long", lines[i].length() <= 120);
        }
    }

    private static void library(String bare) {
        Set<String> own = new TreeSet<>();
        for (Class<?> inside : RowsOfTwo.class.getDeclaredClasses()) {
            own.add(inside.getSimpleName());
        }
        Matcher used = Pattern.compile("\\b([A-Z]\\w*)\\.\\w+(?=\\()").matcher(bare);
        while (used.find()) {
            Check.holds(used.group() + " is of the library's part",
                    own.contains(used.group(1)) || LIBRARY.contains(used.group()));
        }
    }
}
