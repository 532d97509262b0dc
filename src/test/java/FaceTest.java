import java.lang.reflect.Constructor;
import java.lang.reflect.Field;
import java.lang.reflect.Method;
import java.lang.reflect.Modifier;
import java.util.Set;
import java.util.TreeSet;

/** The public face: every member of the document, and no other that is not private. */
public final class FaceTest {
    private static final Check c = new Check("face");
    private static final String METHODS = "int row(int,int,int) int set(int,int,int) int copy(int,int,int,int,int) "
        + "int drop(int) int feed(int) int trial() int fault() int undo() int make(int) int mend(int) int feast(int) "
        + "int idle(int) int lesson() int part(int,int) int elder(int,int) int stand(int) int fewest(int) int can() "
        + "int feasts(int) int mends(int) int decides() int whereIs(int,int,int) int skills(int,int,int) "
        + "int who(int,int,int,int) long err(int,int) int worth(int) int drawn(int,int,int) int image(int) "
        + "int restore(int) int kind(int) int as(int,int) int ask(int,int) int trace(int) int count(int) int status()";

    public static void main(String[] args) {
        c.holds("the class is public and final", GuildPiece.class.getModifiers() == (Modifier.PUBLIC | Modifier.FINAL));
        methods();
        constants();
        Constructor<?>[] made = GuildPiece.class.getDeclaredConstructors();
        c.due("constructors", made.length, 1);
        c.holds("it is public, without parameters",
            Modifier.isPublic(made[0].getModifiers()) && made[0].getParameterCount() == 0);
        inside();
        c.end();
    }

    private static String face(Method m) {
        StringBuilder s = new StringBuilder(m.getReturnType() + " " + m.getName() + "(");
        for (Class<?> type : m.getParameterTypes()) {
            s.append(s.charAt(s.length() - 1) == '(' ? "" : ",").append(type);
        }
        return s.append(")").toString();
    }

    private static void methods() {
        Set<String> want = new TreeSet<>();
        Set<String> names = new TreeSet<>();
        String[] words = METHODS.split(" ");
        for (int i = 0; i < words.length; i += 2) {
            want.add(words[i] + " " + words[i + 1]);
            names.add(words[i + 1].substring(0, words[i + 1].indexOf('(')));
        }
        Set<String> got = new TreeSet<>();
        for (Method m : GuildPiece.class.getDeclaredMethods()) {
            if (Modifier.isPrivate(m.getModifiers())) {
                c.holds("no private method is named " + m.getName(), !names.contains(m.getName()));
            } else {
                c.holds(m.getName() + " is public, of an object", m.getModifiers() == Modifier.PUBLIC);
                got.add(face(m));
            }
        }
        c.due("methods", want.size(), 35);
        c.holds("they are " + want + ", and were " + got, want.equals(got));
    }

    private static void constants() {
        c.due("NONE", GuildPiece.NONE, -1000000);
        c.due("BAD", GuildPiece.BAD, -1000001);
        c.due("STATE", GuildPiece.STATE, -1000002);
        c.due("FULL", GuildPiece.FULL, -1000003);
        int open = 0;
        for (Field f : GuildPiece.class.getDeclaredFields()) {
            int how = f.getModifiers();
            open += Modifier.isPrivate(how) ? 0 : 1;
            c.holds("a static field is final: " + f.getName(), !Modifier.isStatic(how) || Modifier.isFinal(how));
        }
        c.due("fields that are not private", open, 4);
    }

    private static void inside() {
        Class<?>[] all = GuildPiece.class.getDeclaredClasses();
        c.holds("some twelve classes at most", all.length < 12);
        for (Class<?> one : all) {
            int how = one.getModifiers();
            c.holds(one + " is static", Modifier.isStatic(how));
            c.holds(one + " is not open", !Modifier.isPublic(how) && !Modifier.isProtected(how));
            c.holds(one + " has some twenty fields at most", fieldsOf(one) <= 20);
        }
        c.holds("it has some twenty fields at most", fieldsOf(GuildPiece.class) <= 20);
    }

    private static int fieldsOf(Class<?> one) {
        int many = 0;
        for (Field f : one.getDeclaredFields()) {
            many += Modifier.isStatic(f.getModifiers()) ? 0 : 1;
        }
        return many;
    }
}
