import java.lang.reflect.Constructor;
import java.lang.reflect.Field;
import java.lang.reflect.Method;
import java.lang.reflect.Modifier;
import java.util.ArrayList;
import java.util.Arrays;
import java.util.List;
import java.util.NoSuchElementException;
import java.util.stream.Collectors;

/** "The public face": the class has what stands there, as it stands there, and shows nothing else. */
public final class FaceTest {
    private static final String FACE = "int sign(int); boolean end(int); int ships(); int rule(); int ship(int,int);"
        + " int force(int,int); int take(int); int sheet(int,int,int,int); int fight(int,int); int days(int);"
        + " int sews(int,int,int); int yields(int,int); int war(); int undo(); int fleet(int); int share(int);"
        + " int later(int,int); int whole(int); int sisters(); int motley(); int order(int); int rivals(int);"
        + " int duel(int,int,int); int tempts(int); int wins(int,int); int suits(int,int); int goesOver(int,int);"
        + " int peace(); int campaign(int); int halves(int); int evens(); int worth(int); int patched(int,int);"
        + " int seen(int,int); int forget(); int fits(); int looks(); int told(int,int,int); int deny(); int laws();"
        + " int asks(); int treaty(int,int); int series(int,int,int); int rests(int); int law(); int years(int,int);"
        + " boolean keep(int); boolean again(int); int count(int); long row(int)";

    private final Check check = new Check();

    public static void main(String[] args) throws ReflectiveOperationException {
        FaceTest test = new FaceTest();
        test.methods();
        test.exceptions();
        test.constants();
        test.constructor();
        test.hidden();
        test.limits();
        test.check.ends();
    }

    private static String told(Method m) {
        return m.getReturnType() + " " + m.getName() + "("
            + Arrays.stream(m.getParameterTypes()).map(Class::getName).collect(Collectors.joining(",")) + ")";
    }

    private void methods() {
        check.says("The public face: each method, and no other");
        List<String> due = new ArrayList<>(List.of(FACE.split("; ")));
        for (Method m : StruckColours.class.getDeclaredMethods()) {
            if (!Modifier.isPrivate(m.getModifiers()) && !m.isSynthetic()) {
                check.due(told(m) + " is of the face", due.remove(told(m)), true);
                check.due(told(m) + " is public alone", m.getModifiers() == Modifier.PUBLIC, true);
            }
        }
        check.due("missing: " + due, due.size(), 0);
    }

    private void exceptions() {
        check.says("The public face: ship() and row() throw NoSuchElementException, and no other call says so");
        for (Method m : StruckColours.class.getDeclaredMethods()) {
            boolean may = m.getName().equals("ship") || m.getName().equals("row");
            Class<?>[] due = may ? new Class<?>[] {NoSuchElementException.class} : new Class<?>[0];
            check.due(told(m), Arrays.equals(m.getExceptionTypes(), due), true);
        }
    }

    private void constants() throws ReflectiveOperationException {
        check.says("The public face: public static final int NONE = -1");
        Field none = StruckColours.class.getDeclaredField("NONE");
        check.due("its kind", none.getModifiers(), Modifier.PUBLIC | Modifier.STATIC | Modifier.FINAL);
        check.due("its type", none.getType() == int.class, true);
        check.due("NONE", none.getInt(null), -1);
    }

    private void constructor() {
        check.says("The public face: public StruckColours(), of a class that is public and final");
        Constructor<?>[] all = StruckColours.class.getDeclaredConstructors();
        check.due("constructors", all.length, 1);
        check.due("its kind", all[0].getModifiers(), Modifier.PUBLIC);
        check.due("its parameters", all[0].getParameterCount(), 0);
        check.due("its exceptions", all[0].getExceptionTypes().length, 0);
        check.due("the class", StruckColours.class.getModifiers(), Modifier.PUBLIC | Modifier.FINAL);
        check.due("what it extends", StruckColours.class.getSuperclass() == Object.class, true);
        check.due("what it implements", StruckColours.class.getInterfaces().length, 0);
    }

    private void hidden() {
        check.says("LANGUAGE.md 1: no other member can be seen, no private method bears the name of a public one");
        for (Field f : StruckColours.class.getDeclaredFields()) {
            boolean is = f.getName().equals("NONE") || Modifier.isPrivate(f.getModifiers()) || f.isSynthetic();
            check.due(f.getName(), is, true);
        }
        List<Class<?>> classes = new ArrayList<>(List.of(StruckColours.class.getDeclaredClasses()));
        for (Class<?> inside : classes) {
            boolean seen = Modifier.isPublic(inside.getModifiers()) || Modifier.isProtected(inside.getModifiers());
            check.due(inside.getName() + " is static", Modifier.isStatic(inside.getModifiers()), true);
            check.due(inside.getName() + " can't be seen", seen, false);
        }
        classes.add(StruckColours.class);
        for (Class<?> each : classes) {
            for (Method m : each.getDeclaredMethods()) {
                boolean like = Modifier.isPrivate(m.getModifiers()) && FACE.contains(" " + m.getName() + "(");
                check.due(each.getName() + "." + m.getName(), like, false);
            }
        }
    }

    private void limits() {
        check.says("LANGUAGE.md 11: seven parameters, some twelve classes, some twenty fields");
        List<Class<?>> classes = new ArrayList<>(List.of(StruckColours.class.getDeclaredClasses()));
        classes.add(StruckColours.class);
        check.due("classes", classes.size() <= 12, true);
        for (Class<?> each : classes) {
            long fields = Arrays.stream(each.getDeclaredFields()).filter(f -> !Modifier.isStatic(f.getModifiers())).count();
            check.due(each.getName() + ": fields", fields <= 20, true);
            for (Method m : each.getDeclaredMethods()) {
                check.due(each.getName() + "." + m.getName() + ": parameters", m.getParameterCount() <= 7, true);
            }
        }
    }
}
