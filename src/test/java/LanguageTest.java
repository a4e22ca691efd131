import java.lang.reflect.Constructor;
import java.lang.reflect.Field;
import java.lang.reflect.Method;
import java.lang.reflect.Modifier;
import java.nio.file.Files;
import java.nio.file.Path;
import java.util.ArrayList;
import java.util.List;
import java.util.Set;
import java.util.TreeSet;

/** The face of the class as the document tells it, and the rules of LANGUAGE.md that a look can tell. */
public final class LanguageTest {
    private static final String FACE = "int row(int,int,int);int set(int,int,int);int copy(int,int,int,int,int);"
            + "int drop(int);int feed(long,int);int garden();int fault();int years(int);int winter(int);"
            + "int clip(int,int);int move(int,int);int level(int,int);int undo();int tree(int,int);"
            + "int site(int,int);int seen(int,int);int doubled(int);int met(int);int cut(int,int,int,int);"
            + "int plant(int,int,int,int);int moon(int);int path(int,int);int picture(int,int);"
            + "int rival(int,int);int image(int);int restore(int);int kind(int);int as(int,int);"
            + "int ask(int,int);int trace(int);int count(int);int status();";
    private static final String[] NOT_ALLOWED = {"throw", "try", "catch", "synchronized", "assert", "->", "::",
        "System.out", "System.nano", "System.current", "Random", "Thread", "Exact", "static {", "toString",
        "hashCode", "Object", "Collections", "Stream", "volatile", "native", "new Integer"};

    public static void main(String[] args) throws Exception {
        face();
        classesInside();
        words();
        lengths();
        Due.end("LanguageTest");
    }

    private static void face() {
        Set<String> names = new TreeSet<>();
        Set<String> found = new TreeSet<>();
        for (Method m : OneBench.class.getDeclaredMethods()) {
            if (Modifier.isPublic(m.getModifiers())) {
                StringBuilder told = new StringBuilder(m.getReturnType() + " " + m.getName() + "(");
                for (int i = 0; i < m.getParameterCount(); i++) {
                    told.append(i > 0 ? "," : "").append(m.getParameterTypes()[i]);
                }
                found.add(told + ")");
                names.add(m.getName());
            }
        }
        Due.is("the public methods " + found, found.equals(new TreeSet<>(List.of(FACE.split(";")))) ? 1 : 0, 1);
        for (Method m : OneBench.class.getDeclaredMethods()) {
            boolean open = Modifier.isPublic(m.getModifiers());
            Due.is(m.getName() + " is public or private", open || Modifier.isPrivate(m.getModifiers()) ? 1 : 0, 1);
            Due.is(m.getName() + " is no public one's name", !open && names.contains(m.getName()) ? 1 : 0, 0);
            Due.is(m.getName() + " has too many parameters", m.getParameterCount() > 7 ? 1 : 0, 0);
        }
        Due.is("final", Modifier.isFinal(OneBench.class.getModifiers()) ? 1 : 0, 1);
        Constructor<?>[] made = OneBench.class.getConstructors();
        Due.is("constructors", made.length, 1);
        Due.is("its parameters", made[0].getParameterCount(), 0);
        Due.is("NONE", OneBench.NONE, -1000000);
        Due.is("BAD", OneBench.BAD, -1000001);
        Due.is("STATE", OneBench.STATE, -1000002);
        Due.is("FULL", OneBench.FULL, -1000003);
        Due.is("public fields", OneBench.class.getFields().length, 4);
    }

    private static void classesInside() {
        List<Class<?>> all = new ArrayList<>(List.of(OneBench.class.getDeclaredClasses()));
        Due.is("classes", all.size() < 12 ? 1 : 0, 1);
        all.add(OneBench.class);
        for (Class<?> c : all) {
            int fields = 0;
            for (Field f : c.getDeclaredFields()) {
                boolean fixed = Modifier.isStatic(f.getModifiers());
                fields += fixed ? 0 : 1;
                Due.is(f + " is not final", fixed && !Modifier.isFinal(f.getModifiers()) ? 1 : 0, 0);
            }
            Due.is("fields of " + c, fields <= 20 ? 1 : 0, 1);
            boolean inside = c != OneBench.class;
            Due.is(c + " is static", !inside || Modifier.isStatic(c.getModifiers()) ? 1 : 0, 1);
        }
    }

    private static List<String> lines() throws Exception {
        return Files.readAllLines(Path.of("src/main/java/OneBench.java"));
    }

    private static void words() throws Exception {
        for (String line : lines()) {
            String code = line.replaceAll("//.*|/\\*\\*.*|^\\s*\\*.*", "").replaceAll("\"[^\"]*\"", "\"\"");
            for (String word : NOT_ALLOWED) {
                Due.is(word + " in: " + line, code.contains(word) ? 1 : 0, 0);
            }
            boolean other = code.startsWith("import") && !code.equals("import java.util.Arrays;");
            Due.is("import: " + line, other ? 1 : 0, 0);
            Due.is("texts joined by +: " + line, code.contains("\" +") || code.contains("+ \"") ? 1 : 0, 0);
        }
    }

    /** Methods stand four or eight blanks in, and end by a brace there. */
    private static void lengths() throws Exception {
        int from = 0;
        String[] all = lines().toArray(new String[0]);
        for (int i = 0; i < all.length; i++) {
            if (all[i].matches("( {4}| {8})(public|private)[^=;]*\\(.*")) {
                from = i;
            }
            if (all[i].matches("( {4}| {8})}") && from > 0) {
                Due.is("length of the method at line " + (from + 1), i - from < 60 ? 1 : 0, 1);
                from = all[i].startsWith("     ") ? from : 0;
            }
        }
    }
}
