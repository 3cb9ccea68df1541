import java.io.IOException;
import java.lang.reflect.Constructor;
import java.lang.reflect.Field;
import java.lang.reflect.Method;
import java.lang.reflect.Modifier;
import java.nio.charset.StandardCharsets;
import java.nio.file.Files;
import java.nio.file.Path;
import java.util.Arrays;
import java.util.Set;
import java.util.TreeSet;
import java.util.regex.Matcher;
import java.util.regex.Pattern;

/** What a test can see of LANGUAGE.md: the face, the classes inside, words and calls that may not stand. */
final class LanguageTest {
    private static final String[] FACE = {
        "int back(int)", "int behind(int,int)", "int blanket(int,int,int)", "int busy(int,int)", "int clear()",
        "int coolest(int,int)", "int count(int)", "int first(int)", "int forget()", "int harm(int,int)",
        "int holes(int)", "int hour()", "int keep(int)", "int mark(int,int)", "int mirror(int,int)", "int now(int)",
        "int rest()", "int saw(int,int,int)", "int sees(int,int)", "int shut(int,int)", "int type(long,int)",
        "int undo()", "int wall(int,int)", "int walls()", "long trace()",
    };
    private static final Set<String> MAY_NOT = Set.of("import", "package", "throw", "throws", "try", "catch", "finally",
        "synchronized", "assert", "native", "volatile", "transient", "hashCode", "toString", "equals", "Object",
        "Random", "Thread", "System", "Exception", "yield", "sealed", "permits", "var");

    public static void main(String[] args) throws IOException {
        face();
        inside();
        String source = Files.readString(Path.of(args[0]), StandardCharsets.ISO_8859_1);
        String code = withoutComments(source);
        words(code);
        calls(code);
        made(code);
        lengths(code);
        Due.end("LanguageTest");
    }

    private static void face() {
        Class<?> c = SeenCools.class;
        Set<String> open = new TreeSet<>();
        Set<String> hidden = new TreeSet<>();
        for (Method m : c.getDeclaredMethods()) {
            if (Modifier.isPrivate(m.getModifiers())) {
                hidden.add(m.getName());
            } else {
                open.add(signature(m));
            }
        }
        Due.due("the face", open.toString(), Arrays.toString(FACE));
        for (Method m : c.getMethods()) {
            Due.due("private methods named " + m.getName(), hidden.contains(m.getName()) ? 1 : 0, 0);
        }
        Set<String> constants = new TreeSet<>();
        for (Field f : c.getDeclaredFields()) {
            if (!Modifier.isPrivate(f.getModifiers())) {
                constants.add(f.getName());
            }
        }
        Due.due("the constants", constants.toString(), "[BAD, FULL, NO, NONE, STATE]");
        Constructor<?>[] made = c.getDeclaredConstructors();
        Due.due("constructors", made.length, 1);
        Due.due("its parameters", made[0].getParameterCount(), 0);
        Due.due("the class", c.getModifiers(), Modifier.PUBLIC | Modifier.FINAL);
    }

    private static String signature(Method m) {
        StringBuilder s = new StringBuilder(m.getReturnType() + " " + m.getName() + "(");
        for (Class<?> p : m.getParameterTypes()) {
            s.append(s.charAt(s.length() - 1) == '(' ? "" : ",").append(p);
        }
        return s.append(")").toString();
    }

    private static void inside() {
        Class<?>[] all = SeenCools.class.getDeclaredClasses();
        Due.due("some twelve classes at most", all.length <= 12 ? 1 : 0, 1);
        for (Class<?> c : all) {
            Due.due(c + " is static", Modifier.isStatic(c.getModifiers()) ? 1 : 0, 1);
            Due.due(c + " is open", c.getModifiers() & (Modifier.PUBLIC | Modifier.PROTECTED), 0);
            Due.due("classes inside " + c, c.getDeclaredClasses().length, 0);
            fields(c);
        }
        fields(SeenCools.class);
    }

    private static void fields(Class<?> c) {
        int own = 0;
        for (Field f : c.getDeclaredFields()) {
            if (Modifier.isStatic(f.getModifiers())) {
                Due.due(f + " is final", Modifier.isFinal(f.getModifiers()) ? 1 : 0, 1);
                Due.due(f + " is a number", f.getType() == int.class ? 1 : 0, 1);
            } else {
                own++;
            }
        }
        Due.due("some twenty fields at most in " + c, own <= 20 ? 1 : 0, 1);
        for (Method m : c.getDeclaredMethods()) {
            Due.due("seven parameters at most of " + m, m.getParameterCount() <= 7 ? 1 : 0, 1);
        }
    }

    private static String withoutComments(String source) {
        return source.replaceAll("(?s)/\\*.*?\\*/", " ").replaceAll("//[^\n]*", " ").replaceAll("\"[^\"\n]*\"", "\"\"");
    }

    private static void words(String code) {
        Matcher m = Pattern.compile("[A-Za-z_]+").matcher(code);
        while (m.find()) {
            Due.due("the word " + m.group(), MAY_NOT.contains(m.group()) ? 1 : 0, 0);
        }
        Due.due("a lambda", code.indexOf("->"), -1);
        Due.due("a method reference", code.indexOf("::"), -1);
        Due.due("an annotation", code.indexOf('@'), -1);
    }

    /** Of the library there is nothing but these. */
    private static void calls(String code) {
        Set<String> library = Set.of("Integer.bitCount", "Math.max", "word.length", "word.charAt");
        Matcher m = Pattern.compile("\\b(Integer|Long|Math|Arrays|String|word)\\.([A-Za-z]+)").matcher(code);
        while (m.find()) {
            Due.due(m.group() + " of the library", library.contains(m.group()) ? 1 : 0, 1);
        }
    }

    /** All is made with the object: in a field's own line, or (the images) in the constructor. */
    private static void made(String code) {
        int within = 0;
        for (String line : code.split("\n")) {
            if (line.matches(".*\\bnew\\b.*")) {
                boolean field = line.matches(" +(private |final )+\\w+(\\[\\])? \\w+ = new \\w+[(\\[].*;");
                within += field ? 0 : 1;
            }
        }
        int start = code.indexOf("public SeenCools()");
        String constructor = start < 0 ? "" : code.substring(start, code.indexOf("\n    }", start));
        Due.due("what is made beside fields", within, constructor.split("\\bnew\\b", -1).length - 1);
    }

    private static void lengths(String code) {
        Matcher m = Pattern.compile("(?m)^( {4}| {8})(?! |.*\\bclass\\b).*\\) \\{$(?s:.*?)^\\1\\}$").matcher(code);
        int methods = 0;
        while (m.find()) {
            methods++;
            Due.due("some sixty lines at most of" + m.group().split("\n")[0], m.group().lines().count() <= 60 ? 1 : 0, 1);
        }
        Due.due("methods are found", methods > 90 ? 1 : 0, 1);
    }
}
