import java.lang.reflect.Field;
import java.lang.reflect.Method;
import java.lang.reflect.Modifier;
import java.util.Map;

/** "The public face", line by line, and the signature of each promise. */
public final class FaceTest {
    private static String face;

    public static void main(String[] args) throws Exception {
        Map<String, String> document = Told.sections();
        face = document.getOrDefault("The public face", "");
        classItself();
        constants();
        constructor();
        methods();
        signatures(document);
        Told.end("FaceTest", "The public face");
    }

    private static void classItself() {
        Told.face("public final class OneBench {");
        int modifiers = OneBench.class.getModifiers();
        Told.isSo("public", Modifier.isPublic(modifiers));
        Told.isSo("final", Modifier.isFinal(modifiers));
        Told.isSo("of no package", OneBench.class.getPackageName().isEmpty());
    }

    private static void constants() throws Exception {
        Told.face("public static final int NONE = -1000000, BAD = -1000001, STATE = -1000002, FULL = -1000003;");
        String[] names = {"NONE", "BAD", "STATE", "FULL"};
        for (int i = 0; i < names.length; i++) {
            Field f = OneBench.class.getField(names[i]);
            Told.isSo(names[i] + " is static", Modifier.isStatic(f.getModifiers()));
            Told.isSo(names[i] + " is final", Modifier.isFinal(f.getModifiers()));
            Told.isSo(names[i] + " is an int", f.getType() == int.class);
            Told.is(names[i], f.getInt(null), -1000000 - i);
        }
        for (Field f : OneBench.class.getDeclaredFields()) {
            boolean told = String.join(" ", names).contains(f.getName());
            Told.isSo(f.getName() + " is private or told", told || Modifier.isPrivate(f.getModifiers()));
        }
    }

    private static void constructor() {
        Told.face("public OneBench();");
        Told.is("constructors", OneBench.class.getDeclaredConstructors().length, 1);
        Told.is("public ones", OneBench.class.getConstructors().length, 1);
        Told.is("its numbers", OneBench.class.getConstructors()[0].getParameterCount(), 0);
    }

    private static Class<?> typeOf(String parameter) {
        return parameter.startsWith("long ") ? long.class : int.class;
    }

    /** Each line "public int name(type name, ..);" of the face is a method of the class, and no other is open. */
    private static void methods() throws Exception {
        int told = 0;
        for (String line : face.split(";")) {
            String text = line.trim();
            if (text.startsWith("public int ")) {
                Told.face(text + ";");
                told++;
                String name = text.substring(11, text.indexOf('('));
                String inside = text.substring(text.indexOf('(') + 1, text.indexOf(')'));
                String[] parameters = inside.isEmpty() ? new String[0] : inside.split(", ");
                Class<?>[] types = new Class<?>[parameters.length];
                for (int i = 0; i < types.length; i++) {
                    types[i] = typeOf(parameters[i]);
                }
                Method m = OneBench.class.getMethod(name, types);
                Told.isSo("it answers an int", m.getReturnType() == int.class);
                Told.isSo("it is no static one", !Modifier.isStatic(m.getModifiers()));
                Told.is("it tells no exception", m.getExceptionTypes().length, 0);
            }
        }
        Told.is("methods of the face", told, 32);
        int open = 0;
        for (Method m : OneBench.class.getDeclaredMethods()) {
            open += Modifier.isPrivate(m.getModifiers()) ? 0 : 1;
        }
        Told.is("methods of the class that are not private", open, told);
    }

    private static void signatures(Map<String, String> document) {
        for (int promise = 2; promise <= 33; promise++) {
            String signature = document.getOrDefault("Promise " + promise + ", signature", "none");
            Told.isSo("of promise " + promise + ": " + signature, face.contains("public " + signature + ";"));
        }
        Told.is("of promise 1", document.getOrDefault("Promise 1, signature", "").indexOf("OneBench()"), 0);
    }
}
