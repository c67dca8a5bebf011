import java.lang.reflect.Constructor;
import java.lang.reflect.Field;
import java.lang.reflect.Method;
import java.lang.reflect.Modifier;
import java.util.Set;
import java.util.TreeSet;

/** The public face: what the class shows is what the document shows, and nothing else. */
public final class FaceTest {
    private static final String[] FACE = {
        "int feed(int,int,int,int,int)", "int text(int)", "int more(int)", "int fault()", "int set(int,int)",
        "int cut(int,int)", "int undo()", "long told(int)", "int unit(int,int)", "int sign(int,int)", "int line(int,int)",
        "int block(int,int)", "int reading(int,int,int,int)", "int run(int,int)", "int at(int,int)", "boolean ends(int)",
        "int longOf(int,int)", "int lines(int,int)", "int least(int)", "long better()", "int marks(int)", "int moves()",
        "int lend(int)", "int nearest(int)", "int partner(int)", "int side(int,int,int)", "int gutter(int)",
        "int clash(int)", "int thick(int,int)", "int pages(int)", "int page(int,int,int)", "int narrow(int)",
        "int status(int)",
    };

    public static void main(String[] args) {
        Kit kit = new Kit("FaceTest");
        Class<?> face = UprightTurned.class;
        kit.due("public and final", Modifier.PUBLIC | Modifier.FINAL, face.getModifiers());
        methods(kit, face);
        for (Field field : face.getDeclaredFields()) {
            boolean isPrivate = Modifier.isPrivate(field.getModifiers());
            kit.due("hidden field " + field.getName(), !field.getName().equals("NONE"), isPrivate);
            boolean isStatic = Modifier.isStatic(field.getModifiers());
            kit.due("static is final " + field.getName(), true, !isStatic || Modifier.isFinal(field.getModifiers()));
        }
        Constructor<?>[] constructors = face.getDeclaredConstructors();
        kit.due("constructors", 1, constructors.length);
        kit.due("constructor's arguments", 0, constructors[0].getParameterCount());
        kit.due("public constructor", true, Modifier.isPublic(constructors[0].getModifiers()));
        kit.due("at most some twelve classes", true, face.getDeclaredClasses().length <= 11);
        for (Class<?> inner : face.getDeclaredClasses()) {
            kit.due("no more visible than the package: " + inner, 0, inner.getModifiers() & (Modifier.PUBLIC | Modifier.PROTECTED));
        }
        kit.close();
    }

    private static void methods(Kit kit, Class<?> face) {
        Set<String> due = new TreeSet<>(Set.of(FACE));
        Set<String> names = new TreeSet<>();
        for (String method : FACE) {
            names.add(method.substring(method.indexOf(' ') + 1, method.indexOf('(')));
        }
        for (Method method : face.getDeclaredMethods()) {
            if (Modifier.isPrivate(method.getModifiers())) {
                kit.due("a name of its own: " + method.getName(), false, names.contains(method.getName()));
            } else {
                String shown = method.getReturnType() + " " + method.getName() + "(";
                for (Class<?> type : method.getParameterTypes()) {
                    shown += shown.endsWith("(") ? type : "," + type;
                }
                kit.due("shown by the document: " + shown, true, due.remove(shown + ")"));
            }
        }
        kit.due("left out: " + due, 0, due.size());
    }
}
