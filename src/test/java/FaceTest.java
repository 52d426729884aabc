import java.lang.reflect.Constructor;
import java.lang.reflect.Field;
import java.lang.reflect.Method;
import java.lang.reflect.Modifier;
import java.util.TreeSet;

/** The public face is the document's, and nothing beside it can be seen from outside. */
public final class FaceTest {
    private static final String[] METHODS = {
        "boolean link(int,int,int)", "int distance(int,int)", "int hop(int,int)", "boolean join(int,int,int)",
        "boolean leave(int,int,int,boolean)", "int marked(int,int)", "boolean pass(int)", "int send(int,int)",
        "int crossings()", "int drops()", "int reached()", "int heard()", "int shared(int,int)",
        "int entry(int,int,int)", "int messages(int)", "boolean lose(int,int)", "int publish(int,int,int)",
        "int emit(int)", "int requests(int)", "int have(int,int)",
    };

    public static void main(String[] args) {
        Due due = new Due();
        Class<?> face = MulticastTrees.class;
        due.yes("public and final", Modifier.isPublic(face.getModifiers()) && Modifier.isFinal(face.getModifiers()));
        constructors(due, face);
        methods(due, face);
        for (Field f : face.getDeclaredFields()) due.yes("private " + f, Modifier.isPrivate(f.getModifiers()));
        for (Class<?> c : face.getDeclaredClasses()) {
            due.yes("static " + c, Modifier.isStatic(c.getModifiers()));
            due.no("public " + c, Modifier.isPublic(c.getModifiers()) || Modifier.isProtected(c.getModifiers()));
        }
        due.end();
    }

    private static void constructors(Due due, Class<?> face) {
        Constructor<?>[] all = face.getDeclaredConstructors();
        due.is("constructors", all.length, 1);
        for (Constructor<?> c : all) due.yes("" + c, c.toString().equals("public MulticastTrees(int)"));
    }

    private static void methods(Due due, Class<?> face) {
        TreeSet<String> wanted = new TreeSet<>();
        for (String m : METHODS) wanted.add("public " + m.replace(" ", " MulticastTrees."));
        TreeSet<String> names = new TreeSet<>();
        for (String m : METHODS) names.add(m.substring(m.indexOf(' ') + 1, m.indexOf('(')));
        for (Method m : face.getDeclaredMethods()) {
            if (Modifier.isPrivate(m.getModifiers())) {
                due.no("private with a public name: " + m, names.contains(m.getName()));
            } else {
                due.yes("of the document: " + m, wanted.remove(m.toString()));
            }
        }
        for (String m : wanted) due.yes("there is " + m, false);
    }
}
