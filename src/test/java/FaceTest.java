import java.lang.reflect.Constructor;
import java.lang.reflect.Field;
import java.lang.reflect.Method;
import java.lang.reflect.Modifier;
import java.util.HashSet;
import java.util.List;
import java.util.Set;
import java.util.TreeSet;

/** The public face is the document's and nothing else (rule 1 of LANGUAGE.md). */
public final class FaceTest {
    private static final String[] FACE = {
        "mile int int", "make int int int", "told int int", "height int int", "set int int", "ship int int int",
        "pace int int", "type long int", "channel", "tides", "count int", "tide int", "water int int",
        "sinks int int int int", "under int int int int", "need int", "run int int int", "least int int int",
        "starts int int", "deepest int int", "bank int int int", "nearest int int", "steered int int",
        "may int int int int int", "meet int int int int int int", "day int int int", "dredged int int int",
        "lost int int int int", "touched int int int", "past int int int", "image", "restore",
        "gauged int int int int int", "sheet int int int", "drop int", "item int int int int",
        "copy int int int int int"};
    private static final String[] CONSTANTS = {
        "BAD -1", "NOT -2", "FULL -3", "NONE -4", "NULL -11", "CAST -12", "INDEX -13", "SIZE -14"};

    public static void main(String[] args) throws Exception {
        Due due = new Due();
        face(due);
        constants(due);
        names(due);
        due.finish();
    }

    private static void face(Due due) {
        due.due("public and final", DeepShip.class.getModifiers(), Modifier.PUBLIC | Modifier.FINAL);
        Set<String> seen = new TreeSet<>();
        for (Method method : DeepShip.class.getDeclaredMethods()) {
            if (Modifier.isPrivate(method.getModifiers())) {
                continue;
            }
            StringBuilder text = new StringBuilder(method.getName());
            for (Class<?> type : method.getParameterTypes()) {
                text.append(' ').append(type.getName());
            }
            seen.add(text.toString());
            due.due(text + " is public alone", method.getModifiers(), Modifier.PUBLIC);
            due.due(text + " answers an int", method.getReturnType() == int.class ? 1 : 0, 1);
        }
        due.due("the methods " + seen, seen.equals(new TreeSet<>(List.of(FACE))) ? 1 : 0, 1);
        Constructor<?>[] constructors = DeepShip.class.getDeclaredConstructors();
        due.due("constructors", constructors.length, 1);
        due.due("its arguments", constructors[0].getParameterCount(), 0);
        due.due("it is public", constructors[0].getModifiers(), Modifier.PUBLIC);
    }

    private static void constants(Due due) throws Exception {
        Set<String> seen = new TreeSet<>();
        for (Field field : DeepShip.class.getDeclaredFields()) {
            if (Modifier.isStatic(field.getModifiers())) {
                due.due(field + " is final", Modifier.isFinal(field.getModifiers()) ? 1 : 0, 1);
            }
            if (!Modifier.isPrivate(field.getModifiers())) {
                seen.add(field.getName() + " " + field.getInt(null));
            }
        }
        due.due("the constants " + seen, seen.equals(new TreeSet<>(List.of(CONSTANTS))) ? 1 : 0, 1);
    }

    private static void names(Due due) {
        Set<String> face = new HashSet<>();
        for (String line : FACE) {
            face.add(line.split(" ")[0]);
        }
        for (Class<?> inner : DeepShip.class.getDeclaredClasses()) {
            for (Method method : inner.getDeclaredMethods()) {
                due.due(method + " bears a name of the face", face.contains(method.getName()) ? 1 : 0, 0);
            }
        }
        for (Method method : DeepShip.class.getDeclaredMethods()) {
            if (Modifier.isPrivate(method.getModifiers())) {
                due.due(method + " bears a name of the face", face.contains(method.getName()) ? 1 : 0, 0);
            }
        }
    }
}
