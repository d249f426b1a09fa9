import java.lang.reflect.Constructor;
import java.lang.reflect.Field;
import java.lang.reflect.Method;
import java.lang.reflect.Modifier;
import java.util.Arrays;
import java.util.TreeSet;

/** The public face, and promise 1: a new object. */
public final class FaceTest {
    private static final String[] METHODS = {"man(int,int)int", "of(int,int)int", "two(int,int,int)int",
        "terms(int,int)int", "feed(int,int,int,int,int)int", "end(int)int", "row()int", "pigeons()int", "law()int",
        "orders()int", "fault()int", "stopped()int", "force(int)int", "relieve(int)int", "sneeze(int)int",
        "pardon(int)int", "pass()int", "undo()int", "holds(int)int", "later(int,int)int", "moment(int,int)int",
        "rota(int,int)int", "order(int)int", "chain(int,int,int)int", "groups(int,int)int", "likest(int)int",
        "plate(int,int)int", "forget()int", "canBe()int", "take(int)int", "few(int,int)long",
        "compare(int,int,int)int", "years(int,int)int", "drawn(int,int)int", "image(int)int", "back(int)int",
        "count(int)int", "status()int"};

    public static void main(String[] args) {
        face();
        newObject();
        Check.finish();
    }

    private static void face() {
        TreeSet<String> open = new TreeSet<>();
        TreeSet<String> closed = new TreeSet<>();
        for (Method m : StatueRelief.class.getDeclaredMethods()) {
            StringBuilder name = new StringBuilder(m.getName()).append('(');
            for (Class<?> p : m.getParameterTypes()) {
                name.append(name.charAt(name.length() - 1) == '(' ? "" : ",").append(p.getName());
            }
            if (Modifier.isPublic(m.getModifiers())) {
                open.add(name.append(')').append(m.getReturnType().getName()).toString());
            } else {
                closed.add(m.getName());
                Check.so(m.getName() + " is private", Modifier.isPrivate(m.getModifiers()));
            }
        }
        Check.so("the methods are " + open, open.equals(new TreeSet<>(Arrays.asList(METHODS))));
        for (String name : METHODS) {
            String bare = name.substring(0, name.indexOf('('));
            Check.so("no private method is named " + bare, !closed.contains(bare));
        }
        for (Field f : StatueRelief.class.getDeclaredFields()) {
            Check.so("field " + f.getName(), f.getName().equals("NONE") == Modifier.isPublic(f.getModifiers()));
            Check.so(f.getName() + " is private, if not public", f.getName().equals("NONE")
                    || Modifier.isPrivate(f.getModifiers()));
        }
        Constructor<?>[] made = StatueRelief.class.getDeclaredConstructors();
        Check.due("constructors", made.length, 1);
        Check.so("the constructor is public", Modifier.isPublic(made[0].getModifiers()));
        Check.so("the class is final", Modifier.isFinal(StatueRelief.class.getModifiers()));
        Check.due("NONE", StatueRelief.NONE, -1);
    }

    private static void newObject() {
        StatueRelief x = new StatueRelief();
        int[] counts = {0, 0, -1, 0, 0, 0, 0, 0, 0, 0, 0, 0, 0, -1, 0, 1, 0, 2};
        for (int what = 0; what < counts.length; what++) {
            Check.due("count(" + what + ") of a new one", x.count(what), counts[what]);
        }
        Check.due("status", x.status(), 0);
        Check.due("fault", x.fault(), -1);
        Check.due("stopped", x.stopped(), -1);
        Check.due("pigeons", x.pigeons(), 0);
        Check.due("canBe", x.canBe(), 0);
        Check.due("order(NONE)", x.order(-1), 0);
        Check.due("groups(3, NONE)", x.groups(3, -1), 0);
        Check.due("drawn ahead of any", x.drawn(0, 2), -1);
        Check.due("undo", x.undo(), -3);
        Check.due("back", x.back(0), -2);
        Check.due("pass on an empty plinth", x.pass(), 0);
        StatueRelief other = new StatueRelief();
        x.man(1, 1);
        Check.due("another one is not touched", other.count(0), 0);
    }
}
