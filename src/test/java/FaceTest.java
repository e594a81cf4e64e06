import java.lang.reflect.Constructor;
import java.lang.reflect.Field;
import java.lang.reflect.Method;
import java.lang.reflect.Modifier;
import java.nio.file.Files;
import java.nio.file.Path;
import java.util.HashSet;
import java.util.Set;
import java.util.TreeSet;
import java.util.regex.Pattern;

/** The public face, and what of LANGUAGE.md a look at the class and its text can tell. */
public final class FaceTest {
    private static final Check check = new Check();
    private static final String FACE = """
        int row(int,int,int); int set(int,int,long); int copy(int,int,int,int,int); long element(int,int);
        int show(int,int); int holds(int); int says(int,int); int person(int,int,int,int,int);
        int people(int,int,int); int personOf(int,int); int move(int,int); int alter(int,int,int);
        int glove(int,boolean); int laws(int); int fault(); int law(int,int); int force(int); int seed(int);
        int tick(int); int begin(int); int hush(); int heard(int); int beside(int); int many(int); int hits();
        int step(); int length(int,int); int joined(int,int); int tally(int,int,int); int grows(int); int few(int);
        int front(int); int micro(int); int sum(int); int gloved(int); int fit(int,int); int part(int,int,int);
        int spread(int); int judge(int); int act(int,int,int); int trace(int); int image(); int restore();
        int status(int);""";

    public static void main(String[] args) throws Exception {
        face();
        inside();
        text();
        check.end();
    }

    private static void face() {
        Set<String> want = new TreeSet<>();
        for (String method : FACE.split(";")) want.add(method.strip());
        Set<String> got = new TreeSet<>();
        for (Method m : ClapTogether.class.getDeclaredMethods()) {
            if (Modifier.isPrivate(m.getModifiers())) continue;
            StringBuilder text = new StringBuilder(m.getReturnType() + " " + m.getName() + "(");
            for (Class<?> type : m.getParameterTypes()) text.append(text.toString().endsWith("(") ? "" : ",").append(type);
            got.add(text.append(")").toString());
            check.due(m + " is public, not static", m.getModifiers(), Modifier.PUBLIC);
        }
        check.due("the face is the document's: " + got, got.equals(want) ? 1 : 0, 1);
        Constructor<?>[] all = ClapTogether.class.getDeclaredConstructors();
        check.due("one constructor", all.length, 1);
        check.due("public", all[0].getModifiers(), Modifier.PUBLIC);
        check.due("without arguments", all[0].getParameterCount(), 0);
        check.due("public and final", ClapTogether.class.getModifiers(), Modifier.PUBLIC | Modifier.FINAL);
        check.due("NONE", ClapTogether.NONE, -1);
        for (Field field : ClapTogether.class.getDeclaredFields()) {
            boolean isPrivate = Modifier.isPrivate(field.getModifiers());
            check.due(field + " is private", isPrivate ? 1 : 0, field.getName().equals("NONE") ? 0 : 1);
        }
    }

    private static void inside() {
        Set<String> names = new HashSet<>();
        for (Method m : ClapTogether.class.getDeclaredMethods()) {
            if (Modifier.isPublic(m.getModifiers())) names.add(m.getName());
        }
        check(ClapTogether.class, names);
        Class<?>[] classes = ClapTogether.class.getDeclaredClasses();
        check.due("at most twelve classes", classes.length < 12 ? 1 : 0, 1);
        for (Class<?> inner : classes) {
            check(inner, names);
            check.due(inner + " is static", Modifier.isStatic(inner.getModifiers()) ? 1 : 0, 1);
        }
    }

    private static void check(Class<?> of, Set<String> publicNames) {
        int fields = 0;
        for (Field field : of.getDeclaredFields()) {
            boolean isStatic = Modifier.isStatic(field.getModifiers());
            if (!isStatic) fields++;
            else check.due(field + " is final", Modifier.isFinal(field.getModifiers()) ? 1 : 0, 1);
        }
        check.due(of + " has some twenty fields at most: " + fields, fields <= 20 ? 1 : 0, 1);
        for (Method m : of.getDeclaredMethods()) {
            boolean bears = !Modifier.isPublic(m.getModifiers()) && publicNames.contains(m.getName());
            check.due(m + " bears a public name", bears ? 1 : 0, 0);
            check.due(m + " has seven parameters at most", m.getParameterCount() <= 7 ? 1 : 0, 1);
        }
    }

    private static void text() throws Exception {
        String text = Files.readString(Path.of("src/main/java/ClapTogether.java"));
        check.due("signs of one byte", text.chars().allMatch(c -> c == '\n' || c >= 32 && c < 127) ? 1 : 0, 1);
        String code = text.replaceAll("(?s)/\\*.*?\\*/", "").replaceAll("//[^\n]*", "").replaceAll("\"[^\"]*\"", "\"\"");
        String[] banned = {"throw", "throws", "try", "catch", "synchronized", "assert", "package", "->", "::",
            "instanceof", "System\\.(?!arraycopy)", "Random", "Thread", "Exception", "\\w+Exact", "hashCode",
            "equals", "toString", "volatile", "transient", "native", "\\bnull\\b"};
        for (String word : banned) {
            String found = Character.isLetter(word.charAt(0)) ? "\\b" + word + "\\b" : word;
            check.due("no " + word, Pattern.compile(found).matcher(code).find() ? 1 : 0, 0);
        }
        check.due("one import", code.split("\nimport ", -1).length - 1 + (code.startsWith("import ") ? 1 : 0), 1);
    }
}
