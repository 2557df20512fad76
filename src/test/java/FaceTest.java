import java.io.IOException;
import java.lang.reflect.Constructor;
import java.lang.reflect.Field;
import java.lang.reflect.Method;
import java.lang.reflect.Modifier;
import java.util.Arrays;
import java.util.List;
import java.util.Set;
import java.util.TreeSet;

/** The face is the document's, and no private method bears a public one's name (LANGUAGE.md, rules 1 and 5). */
public final class FaceTest {
    private static final String[] METHODS = {
        "set(int,int)", "say(int)", "wipe()", "fault()", "stands(int,int)", "read(int)", "seen(int)", "missed(int)",
        "hired(int,int,int)", "cross(int,int)", "unseen(int)", "look(int)", "looks(int)", "best(int)", "stood(int)",
        "sight(int,int,boolean)", "forget()", "fits(int)", "could(int)", "alibi(int)", "gone(int)", "out(int)",
        "drawn(int,int,int)", "image(int)", "restore(int)", "told(int)",
    };
    private static final String[] CONSTANTS = {"UNKNOWN", "OUTSIDE", "STATE", "FULL", "NO", "NONE"};

    private static final Check C = new Check();

    public static void main(String[] args) throws IOException, ReflectiveOperationException {
        C.part("the face");
        C.due("public and final", Modifier.isPublic(NineNames.class.getModifiers()) && Modifier.isFinal(NineNames.class.getModifiers()));
        methods();
        constants();
        Constructor<?>[] constructors = NineNames.class.getDeclaredConstructors();
        C.due("one constructor", constructors.length, 1);
        C.due("it is public, without parameters", Modifier.isPublic(constructors[0].getModifiers()) && constructors[0].getParameterCount() == 0);
        inside();
        wordByWord();
        C.end();
    }

    private static String signature(Method m) {
        StringBuilder text = new StringBuilder(m.getName()).append('(');
        for (Class<?> type : m.getParameterTypes()) {
            text.append(text.charAt(text.length() - 1) == '(' ? "" : ",").append(type.getName());
        }
        return text.append(')').toString();
    }

    private static void methods() {
        Set<String> found = new TreeSet<>();
        for (Method m : NineNames.class.getDeclaredMethods()) {
            if (Modifier.isPublic(m.getModifiers())) {
                found.add(signature(m));
                C.due(m + " answers int and is not static", m.getReturnType() == int.class && !Modifier.isStatic(m.getModifiers()));
            } else {
                C.due(m + " is private", Modifier.isPrivate(m.getModifiers()) || m.isSynthetic());
            }
        }
        C.due("the public methods are " + found, found.equals(new TreeSet<>(Arrays.asList(METHODS))));
    }

    private static void constants() throws ReflectiveOperationException {
        Set<String> found = new TreeSet<>();
        for (Field f : NineNames.class.getDeclaredFields()) {
            if (Modifier.isPublic(f.getModifiers())) {
                found.add(f.getName());
            } else {
                C.due(f + " is private", Modifier.isPrivate(f.getModifiers()));
            }
            if (Modifier.isStatic(f.getModifiers())) {
                C.due(f + " is final", Modifier.isFinal(f.getModifiers()));
            }
        }
        C.due("the constants are " + found, found.equals(new TreeSet<>(Arrays.asList(CONSTANTS))));
        for (int n = 0; n < CONSTANTS.length; n++) {
            Field f = NineNames.class.getDeclaredField(CONSTANTS[n]);
            C.due(CONSTANTS[n] + " is static", Modifier.isStatic(f.getModifiers()));
            C.due(CONSTANTS[n], f.getInt(null), -1 - n);
        }
    }

    private static void inside() {
        Set<String> names = new TreeSet<>();
        for (String m : METHODS) {
            names.add(m.substring(0, m.indexOf('(')));
        }
        for (Class<?> c : NineNames.class.getDeclaredClasses()) {
            C.due(c + " is static", Modifier.isStatic(c.getModifiers()) && !Modifier.isPublic(c.getModifiers()));
            for (Method m : c.getDeclaredMethods()) {
                C.due(m + " bears another name", !names.contains(m.getName()));
            }
        }
    }

    /** The names of parameters and the order are the document's, too. */
    private static void wordByWord() throws IOException {
        C.part("the document's face, word by word");
        List<String> document = Texts.javaLines(Texts.DOCUMENT);
        List<String> source = Texts.lines("src/main/java/NineNames.java");
        List<String> due = Texts.methods(document);
        C.due("as many as there are promises of calls", due.size(), METHODS.length);
        C.due("the methods are " + due, Texts.methods(source).equals(due));
        for (String line : document) {
            boolean isMethod = !Texts.methods(List.of(line)).isEmpty();
            if (!isMethod) {
                C.due("there is: " + line, source.contains(line.replace("();", "() {")));
            }
        }
    }
}
