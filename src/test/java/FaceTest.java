import java.io.IOException;
import java.lang.reflect.Constructor;
import java.lang.reflect.Field;
import java.lang.reflect.Method;
import java.lang.reflect.Modifier;
import java.nio.file.Files;
import java.nio.file.Path;
import java.util.Arrays;
import java.util.HashSet;
import java.util.List;
import java.util.Set;
import java.util.TreeSet;

/** The face is the document's and nothing beside it, and the source keeps to what can be told by its words. */
public final class FaceTest {
    private static final String[] FACE = {
        "int feed(int,int,int,int,int)", "boolean end(int)", "int fault(int)", "int text(int)", "int rule(int)",
        "int curtain(int,int)", "int person(int,int)", "boolean law(int)", "int state(int)", "int lord(int)",
        "int lit(int)", "int touch(int,int)", "int pull(int,int,boolean)", "int go(int,int)", "int creep(int,int)",
        "int mend(int,int)", "int years(int)", "boolean heat(int)", "int centuries(int,long)", "int status(int)",
        "int undo()", "int log(int,int)", "int join(int,int)", "int hide(int,int,int)", "int seen(int,int)",
        "int under(int,int,int)", "int lead(int)", "int first(int)", "int cloth(int)",
        "int game(int,int,int,int,int)", "int rests(int,int,int)", "int treaty(int,int)", "int air(int)",
        "int faded(int,boolean)", "int leant(int,int)", "int sure(int)", "int best(int)", "int cross()",
        "int realm()", "int gathered()", "int dark()", "int borders(int)", "int guests()", "int image()",
        "int back()", "int count(int)"};
    private static final Check check = new Check();

    public static void main(String[] args) throws IOException {
        Class<?> face = VelvetStates.class;
        check.due("public and final", Modifier.isPublic(face.getModifiers()) && Modifier.isFinal(face.getModifiers()), true);
        Set<String> names = methods(face);
        fields(face);
        Constructor<?>[] made = face.getDeclaredConstructors();
        check.due("one constructor", made.length, 1);
        check.due("public, without parameters", Modifier.isPublic(made[0].getModifiers()) && made[0].getParameterCount() == 0, true);
        insides(face, names);
        source();
        check.end("FaceTest");
    }

    private static String told(Method m) {
        StringBuilder s = new StringBuilder(m.getReturnType().getName() + " " + m.getName() + "(");
        Class<?>[] given = m.getParameterTypes();
        for (int i = 0; i < given.length; i++) {
            s.append(i > 0 ? "," : "").append(given[i].getName());
        }
        return s.append(")").toString();
    }

    private static Set<String> methods(Class<?> face) {
        Set<String> found = new TreeSet<>();
        Set<String> names = new HashSet<>();
        for (Method m : face.getDeclaredMethods()) {
            if (Modifier.isPublic(m.getModifiers())) {
                found.add(told(m));
                names.add(m.getName());
                check.due("no static " + m, Modifier.isStatic(m.getModifiers()), false);
            } else {
                check.due("private " + m, Modifier.isPrivate(m.getModifiers()), true);
            }
        }
        check.due("the face: " + found, found.equals(new TreeSet<>(Arrays.asList(FACE))), true);
        for (Method m : face.getDeclaredMethods()) {
            check.due("a public one's name: " + m, !Modifier.isPublic(m.getModifiers()) && names.contains(m.getName()), false);
        }
        return names;
    }

    private static void fields(Class<?> face) {
        for (Field f : face.getDeclaredFields()) {
            boolean told = f.getName().equals("NONE") || f.getName().equals("HIDDEN");
            check.due("public " + f, Modifier.isPublic(f.getModifiers()), told);
            check.due("private " + f, Modifier.isPrivate(f.getModifiers()), !told);
            check.due("static and not final " + f, Modifier.isStatic(f.getModifiers()) && !Modifier.isFinal(f.getModifiers()), false);
        }
    }

    private static void insides(Class<?> face, Set<String> names) {
        check.due("classes, 12 at most", face.getDeclaredClasses().length + 1 <= 12, true);
        for (Class<?> inside : face.getDeclaredClasses()) {
            check.due("static " + inside, Modifier.isStatic(inside.getModifiers()), true);
            check.due("not public " + inside, Modifier.isPublic(inside.getModifiers()), false);
            int own = 0;
            for (Field f : inside.getDeclaredFields()) {
                own += Modifier.isStatic(f.getModifiers()) ? 0 : 1;
            }
            check.due("fields of " + inside, own <= 20, true);
            for (Method m : inside.getDeclaredMethods()) {
                check.due("a public one's name: " + m, names.contains(m.getName()), false);
                check.due("seven parameters: " + m, m.getParameterCount() <= 7, true);
            }
        }
    }

    private static void source() throws IOException {
        Path file = Path.of("src/main/java/VelvetStates.java");
        String text = Files.readString(file);
        for (String word : List.of("package ", "->", "::", "finally", "synchronized", "assert ", "catch", "instanceof",
                "System.out", "Random", "hashCode", "toString", "Exact(", "static {", "double", "float", "while (true")) {
            check.due("'" + word + "' in the source", text.contains(word), false);
        }
        List<String> imports = text.lines().filter(line -> line.startsWith("import ")).toList();
        check.due("imports: " + imports,
            imports.equals(List.of("import java.util.Arrays;", "import java.util.NoSuchElementException;")), true);
        check.due("signs within 1 .. 127", text.chars().allMatch(sign -> sign < 128), true);
    }
}
