import java.io.IOException;
import java.lang.reflect.Field;
import java.lang.reflect.Method;
import java.lang.reflect.Modifier;
import java.nio.file.Files;
import java.nio.file.Path;
import java.util.ArrayList;
import java.util.List;
import java.util.TreeSet;
import java.util.regex.Matcher;
import java.util.regex.Pattern;

/** The face of the document, and those rules of LANGUAGE.md that a look at the program can tell. */
public final class LanguageTest {
    private static final Check CHECK = new Check("LanguageTest");
    private static final String[] FACE = {"int place(int)", "int road(int,int,int)", "int roads(int,int,int)",
        "int walk(int,int)", "int set(int,int)", "int mend(int,int,int)", "int of(int,int)", "int feed(int)", "int law()",
        "int rule()", "int force(int)", "int car(int,int,int)", "int far(int)", "int waits(int,int)",
        "int queue(int,int,int)", "int here(int,int,int)", "int goes(int,int)", "int dark(int,int,int)",
        "int sign(int,int)", "int in(int,int)", "int walks(int,int)", "int begin(int,int)", "int two(int,int)",
        "int book(int,int,int)", "int safe(int,int)", "int never()", "int undo()", "int redo()", "int body(int)",
        "int act(int,int,int)", "int trace(int)", "int keep(int,int)", "int row(int,int,int)", "int put(int,int,long)",
        "long element(int,int)", "int shift(int,int,int,int,int)", "int taken(int,int)", "int count(int)"};

    public static void main(String[] args) throws IOException {
        if (args.length < 1) {
            CHECK.due("the program's file is told as an argument", 0, 1);
            CHECK.end();
        }
        face();
        members();
        words(new String(Files.readAllBytes(Path.of(args[0])), "ISO-8859-1"));
        CHECK.end();
    }

    private static void holds(String what, boolean holds) {
        CHECK.due(what, holds ? 1 : 0, 1);
    }

    private static void face() {
        TreeSet<String> face = new TreeSet<>(List.of(FACE));
        TreeSet<String> found = new TreeSet<>();
        for (Method m : ThumbOut.class.getDeclaredMethods()) {
            if (!Modifier.isPrivate(m.getModifiers()) && !m.isSynthetic()) {
                StringBuilder told = new StringBuilder(m.getReturnType().getName()).append(' ').append(m.getName()).append('(');
                for (Class<?> p : m.getParameterTypes()) {
                    told.append(told.charAt(told.length() - 1) == '(' ? "" : ",").append(p.getName());
                }
                found.add(told.append(')').toString());
                holds("rule 1: public and of the object: " + m, m.getModifiers() == Modifier.PUBLIC);
            }
        }
        holds("rule 1: the methods are " + found, found.equals(face));
        holds("rule 1: public and final", ThumbOut.class.getModifiers() == (Modifier.PUBLIC | Modifier.FINAL));
        holds("rule 1: one constructor", ThumbOut.class.getDeclaredConstructors().length == 1);
        CHECK.due("BAD", ThumbOut.BAD, -1);
        CHECK.due("NOT", ThumbOut.NOT, -2);
        CHECK.due("FULL", ThumbOut.FULL, -3);
        CHECK.due("STATE", ThumbOut.STATE, -5);
        CHECK.due("VOID", ThumbOut.VOID, -2000000000);
        int visible = 0;
        for (Field f : ThumbOut.class.getDeclaredFields()) {
            visible += Modifier.isPrivate(f.getModifiers()) ? 0 : 1;
        }
        CHECK.due("rule 1: visible fields", visible, 5);
    }

    private static void members() {
        TreeSet<String> names = new TreeSet<>();
        for (String f : FACE) {
            names.add(f.substring(f.indexOf(' ') + 1, f.indexOf('(')));
        }
        List<Class<?>> classes = new ArrayList<>(List.of(ThumbOut.class.getDeclaredClasses()));
        for (Class<?> c : classes) {
            holds("rule 1: a static class inside: " + c, Modifier.isStatic(c.getModifiers()));
        }
        classes.add(ThumbOut.class);
        holds("rule 11: some twelve classes", classes.size() <= 12);
        for (Class<?> c : classes) {
            int fields = 0;
            for (Field f : c.getDeclaredFields()) {
                fields += Modifier.isStatic(f.getModifiers()) ? 0 : 1;
                holds("rule 5: static and final: " + f,
                    !Modifier.isStatic(f.getModifiers()) || Modifier.isFinal(f.getModifiers()));
            }
            holds("rule 11: some twenty fields in " + c, fields <= 20);
            for (Method m : c.getDeclaredMethods()) {
                holds("rule 11: seven parameters: " + m, m.getParameterCount() <= 7);
                holds("rule 1: a name of the face: " + m, c == ThumbOut.class && Modifier.isPublic(m.getModifiers())
                    || !names.contains(m.getName()));
                holds("rule 6: no method of Object: " + m, !List.of("equals", "hashCode", "toString").contains(m.getName()));
            }
        }
    }

    private static void words(String source) {
        boolean ascii = true;
        for (int i = 0; i < source.length(); i++) {
            ascii &= source.charAt(i) < 127;
        }
        holds("rule 4: signs 1 to 127", ascii);
        String code = source.replaceAll("(?s)/\\*.*?\\*/", "").replaceAll("//[^\n]*", "");
        String bare = code.replaceAll("'.'", "0").replaceAll("\"[^\"]*\"", "0");
        String[] none = {"\\bthrows?\\b", "\\btry\\b", "\\bcatch\\b", "\\bsynchronized\\b", "\\bassert\\b", "->", "::",
            "\\bpackage\\b", "Exact\\b", "\\bSystem\\.(?!arraycopy)", "\\bArrays\\.(?!fill|copyOf)", "\\bThread\\b",
            "\\bInteger\\b", "\\bLong\\b", "\\bDouble\\b", "\\bMath\\.(?!max|min|abs)", "\\bvar\\b", "\\byield\\b",
            "^import (?!java\\.util\\.Arrays;)", "@", "\\bfloat\\b", "\\bdouble\\b", "\\binstanceof\\b", "\\bnative\\b"};
        for (String word : none) {
            Matcher found = Pattern.compile(word, Pattern.MULTILINE).matcher(bare);
            holds("rules 4 to 13: none of " + word, !found.find());
        }
        methodsAreShort(source.split("\n"));
    }

    /** A method begins on an indented line that ends in ") {" and ends on a line "}" as far in. */
    private static void methodsAreShort(String[] lines) {
        Pattern begin = Pattern.compile("^( {4}| {8})[A-Za-z][A-Za-z\\[\\] ]* [a-zA-Z]+\\([^()]*\\) \\{$");
        int methods = 0;
        for (int i = 0; i < lines.length; i++) {
            Matcher m = begin.matcher(lines[i]);
            if (!m.matches() || lines[i].contains("else if")) {
                continue;
            }
            int end = i;
            while (end < lines.length && !lines[end].equals(m.group(1) + "}")) {
                end++;
            }
            methods++;
            holds("rule 11: some sixty lines: " + lines[i].trim() + ": " + (end - i + 1), end - i < 60);
        }
        holds("rule 11: methods were found", methods > 80);
    }
}
