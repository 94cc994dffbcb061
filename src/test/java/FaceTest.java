import java.lang.reflect.Constructor;
import java.lang.reflect.Method;
import java.lang.reflect.Modifier;
import java.nio.file.Files;
import java.nio.file.Path;
import java.util.TreeSet;

/** The class has the face that the document's code block tells, and nothing else that others could call. */
public final class FaceTest {
    private static TreeSet<String> told() throws Exception {
        String shared = System.getProperty("project.shared", "../shared");
        String doc = Files.readString(Path.of(shared, "DOC.md"));
        TreeSet<String> lines = new TreeSet<>();
        int start = doc.indexOf("public final class Tetrahedry {");
        for (String line : doc.substring(start, doc.indexOf("\n}", start)).split("\n")) {
            String text = line.trim();
            if (text.startsWith("public ") && text.endsWith(";")) {
                lines.add(text.replaceAll("\\bint \\w+(?=[,)])", "int"));
            }
        }
        return lines;
    }

    private static String text(String head, Class<?>[] parameters, Class<?>[] thrown) {
        StringBuilder all = new StringBuilder("public ").append(head).append('(');
        for (int k = 0; k < parameters.length; k++) {
            all.append(k == 0 ? "" : ", ").append(parameters[k].getSimpleName());
        }
        all.append(')');
        for (int k = 0; k < thrown.length; k++) {
            all.append(k == 0 ? " throws " : ", ").append(thrown[k].getSimpleName());
        }
        return all.append(';').toString();
    }

    public static void main(String[] args) throws Exception {
        TreeSet<String> found = new TreeSet<>();
        TreeSet<String> hidden = new TreeSet<>();
        TreeSet<String> open = new TreeSet<>();
        for (Constructor<?> c : Tetrahedry.class.getDeclaredConstructors()) {
            found.add(text("Tetrahedry", c.getParameterTypes(), c.getExceptionTypes()));
        }
        for (Method m : Tetrahedry.class.getDeclaredMethods()) {
            if (Modifier.isPublic(m.getModifiers())) {
                found.add(text(m.getReturnType().getSimpleName() + " " + m.getName(), m.getParameterTypes(),
                        m.getExceptionTypes()));
                open.add(m.getName());
            } else {
                Check.tell("private " + m.getName(), true, Modifier.isPrivate(m.getModifiers()));
                hidden.add(m.getName());
            }
        }
        for (java.lang.reflect.Field f : Tetrahedry.class.getDeclaredFields()) {
            Check.tell("private " + f.getName(), true, Modifier.isPrivate(f.getModifiers()));
        }
        for (Class<?> c : Tetrahedry.class.getDeclaredClasses()) {
            Check.tell("static " + c.getName(), true, Modifier.isStatic(c.getModifiers()));
            Check.tell("not public " + c.getName(), false, Modifier.isPublic(c.getModifiers()));
            Check.tell("fields of " + c.getName(), true, c.getDeclaredFields().length <= 22);
            for (Method m : c.getDeclaredMethods()) {
                hidden.add(m.getName());
            }
        }
        Check.tell("the face", told(), found);
        Check.tell("calls of the face", 48 - 1, open.size());
        hidden.retainAll(open);
        Check.tell("hidden methods with names of the face", new TreeSet<String>(), hidden);
        int modifiers = Tetrahedry.class.getModifiers();
        Check.tell("public and final", true, Modifier.isPublic(modifiers) && Modifier.isFinal(modifiers));
        Check.end("FaceTest");
    }
}
