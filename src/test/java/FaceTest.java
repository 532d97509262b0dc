import java.io.IOException;
import java.lang.reflect.Constructor;
import java.lang.reflect.Field;
import java.lang.reflect.Method;
import java.lang.reflect.Modifier;
import java.nio.file.Files;
import java.nio.file.Path;
import java.util.Set;
import java.util.TreeSet;
import java.util.regex.Matcher;
import java.util.regex.Pattern;

/** The public face: every member of the document, and no other that is not private. */
public final class FaceTest {
    private static final Check c = new Check("face");
    private static final Path DOCUMENT = Path.of("../shared/DOC.md");

    public static void main(String[] args) throws IOException {
        c.holds("the class is public and final", GuildPiece.class.getModifiers() == (Modifier.PUBLIC | Modifier.FINAL));
        String told = told();
        methods(told);
        constants(told);
        Constructor<?>[] made = GuildPiece.class.getDeclaredConstructors();
        c.due("constructors", made.length, 1);
        c.holds("it is public, without parameters",
            Modifier.isPublic(made[0].getModifiers()) && made[0].getParameterCount() == 0);
        inside();
        c.end();
    }

    private static String face(Method m) {
        StringBuilder s = new StringBuilder(m.getReturnType() + " " + m.getName() + "(");
        for (Class<?> type : m.getParameterTypes()) {
            s.append(s.charAt(s.length() - 1) == '(' ? "" : ",").append(type);
        }
        return s.append(")").toString();
    }

    /** What the document itself shows under 'The public face'. */
    private static String told() throws IOException {
        String text = Files.readString(DOCUMENT);
        int from = text.indexOf("## The public face");
        int to = text.indexOf("\n## ", from);
        c.holds("the document shows the face", from >= 0 && to > from);
        return text.substring(Math.max(0, from), Math.max(Math.max(0, from), to));
    }

    private static void methods(String told) {
        Set<String> want = new TreeSet<>();
        Set<String> names = new TreeSet<>();
        Matcher line = Pattern.compile("public (int|long) (\\w+)\\(([^)]*)\\);").matcher(told);
        while (line.find()) {
            String types = line.group(3).replaceAll(" \\w+(?=,|$)", "").replace(" ", "");
            want.add(line.group(1) + " " + line.group(2) + "(" + types + ")");
            names.add(line.group(2));
        }
        Set<String> got = new TreeSet<>();
        for (Method m : GuildPiece.class.getDeclaredMethods()) {
            if (Modifier.isPrivate(m.getModifiers())) {
                c.holds("no private method is named " + m.getName(), !names.contains(m.getName()));
            } else {
                c.holds(m.getName() + " is public, of an object", m.getModifiers() == Modifier.PUBLIC);
                got.add(face(m));
            }
        }
        c.due("methods", want.size(), 35);
        c.holds("they are " + want + ", and were " + got, want.equals(got));
    }

    private static void constants(String told) {
        Matcher value = Pattern.compile("(\\w+) = (-?\\d+)").matcher(told);
        int many = 0;
        while (value.find()) {
            many++;
            c.due(value.group(1), constant(value.group(1)), Long.parseLong(value.group(2)));
        }
        c.due("constants", many, 4);
        c.due("NONE", GuildPiece.NONE, -1000000);
        c.due("BAD", GuildPiece.BAD, -1000001);
        c.due("STATE", GuildPiece.STATE, -1000002);
        c.due("FULL", GuildPiece.FULL, -1000003);
        int open = 0;
        for (Field f : GuildPiece.class.getDeclaredFields()) {
            int how = f.getModifiers();
            open += Modifier.isPrivate(how) ? 0 : 1;
            c.holds("a static field is final: " + f.getName(), !Modifier.isStatic(how) || Modifier.isFinal(how));
        }
        c.due("fields that are not private", open, 4);
    }

    private static long constant(String name) {
        try {
            return GuildPiece.class.getField(name).getInt(null);
        } catch (ReflectiveOperationException e) {
            return Long.MIN_VALUE;
        }
    }

    private static void inside() {
        Class<?>[] all = GuildPiece.class.getDeclaredClasses();
        c.holds("some twelve classes at most", all.length < 12);
        for (Class<?> one : all) {
            int how = one.getModifiers();
            c.holds(one + " is static", Modifier.isStatic(how));
            c.holds(one + " is not open", !Modifier.isPublic(how) && !Modifier.isProtected(how));
            c.holds(one + " has some twenty fields at most", fieldsOf(one) <= 20);
        }
        c.holds("it has some twenty fields at most", fieldsOf(GuildPiece.class) <= 20);
    }

    private static int fieldsOf(Class<?> one) {
        int many = 0;
        for (Field f : one.getDeclaredFields()) {
            many += Modifier.isStatic(f.getModifiers()) ? 0 : 1;
        }
        return many;
    }
}
