import java.lang.reflect.Constructor;
import java.lang.reflect.Field;
import java.lang.reflect.Method;
import java.lang.reflect.Modifier;
import java.util.ArrayList;
import java.util.List;
import java.util.TreeSet;

/** The public face is the document's, to the last declared exception (rule 1 of LANGUAGE.md). */
public final class FaceTest {
    private static final String ALL =
            " throws ArrayIndexOutOfBoundsException IllegalStateException IllegalArgumentException";
    private static final String[] FACE = {
        "boolean outline(long,long) throws IllegalArgumentException",
        "boolean slope(int,long,long)"
            + " throws ArrayIndexOutOfBoundsException IllegalArgumentException",
        "boolean gable(int) throws ArrayIndexOutOfBoundsException IllegalStateException",
        "long place(long,long,int) throws ArrayIndexOutOfBoundsException IllegalArgumentException",
        "int face(long,long) throws IllegalArgumentException",
        "int rafter(int,long)" + ALL,
        "long end(int,long,int)" + ALL,
        "int against(int,long)" + ALL,
        "long length(int,long,int)" + ALL,
        "long tangent(int,long,int,int)" + ALL,
        "long mouth(int,long,int)" + ALL,
        "long hip(int,int,int) throws ArrayIndexOutOfBoundsException IllegalStateException",
        "long peak(int) throws ArrayIndexOutOfBoundsException",
        "long ridge(int,int) throws ArrayIndexOutOfBoundsException",
        "long area(int,int) throws ArrayIndexOutOfBoundsException IllegalStateException",
        "int batten(int,long)" + ALL,
    };

    public static void main(String[] args) {
        Class<?> program = RafterPlaces.class;
        TreeSet<String> shown = new TreeSet<>();
        TreeSet<String> shownNames = new TreeSet<>();
        List<String> hiddenNames = new ArrayList<>();
        for (Method method : program.getDeclaredMethods()) {
            if (Modifier.isPrivate(method.getModifiers())) {
                hiddenNames.add(method.getName());
            } else {
                shown.add(told(method));
                shownNames.add(method.getName());
            }
        }
        Checks.compare("the methods", shown.toString(), new TreeSet<>(List.of(FACE)).toString());
        hiddenNames.retainAll(shownNames);
        Checks.compare("private methods with a public name", hiddenNames.toString(), "[]");
        Checks.compare("the fields", shownFields(program), "public static final int NONE");
        Checks.due("NONE", () -> RafterPlaces.NONE, -1);
        Checks.compare("the class", Modifier.toString(program.getModifiers()), "public final");
        Constructor<?>[] made = program.getDeclaredConstructors();
        Checks.due("constructors", () -> made.length, 1);
        Checks.due("the constructor", () -> made[0].toString(), "public RafterPlaces()");
        writtenAsInTheDocument();
        Checks.finish();
    }

    /** Parameters' names, too, which a compiled class does not keep. */
    private static void writtenAsInTheDocument() {
        String program = Texts.inOneLine(Texts.read("src/main/java/RafterPlaces.java"));
        List<String> lines = Texts.documentFace();
        Checks.due("lines of the document's face", lines::size, FACE.length + 3);
        for (String line : lines) {
            // A method has its body where the document has a semicolon.
            String written = line.endsWith(";") && line.contains("(")
                    ? line.substring(0, line.length() - 1) + " {" : line;
            Checks.compare("written in the program: " + written,
                    String.valueOf(program.contains(written)), "true");
        }
    }

    private static String told(Method method) {
        StringBuilder text = new StringBuilder(method.getReturnType().getSimpleName());
        text.append(' ').append(method.getName()).append('(');
        Class<?>[] types = method.getParameterTypes();
        for (int i = 0; i < types.length; i++) {
            text.append(i == 0 ? "" : ",").append(types[i].getSimpleName());
        }
        text.append(") throws");
        for (Class<?> type : method.getExceptionTypes()) {
            text.append(' ').append(type.getSimpleName());
        }
        boolean plain = method.getModifiers() == Modifier.PUBLIC;
        return plain ? text.toString() : Modifier.toString(method.getModifiers()) + " " + text;
    }

    private static String shownFields(Class<?> program) {
        StringBuilder text = new StringBuilder();
        for (Field field : program.getDeclaredFields()) {
            if (!Modifier.isPrivate(field.getModifiers())) {
                text.append(Modifier.toString(field.getModifiers())).append(' ');
                text.append(field.getType()).append(' ').append(field.getName());
            }
        }
        return text.toString();
    }
}
