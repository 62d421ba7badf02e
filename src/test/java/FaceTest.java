import java.lang.reflect.Constructor;
import java.lang.reflect.Field;
import java.lang.reflect.Method;
import java.lang.reflect.Modifier;
import java.util.Arrays;
import java.util.Set;
import java.util.TreeSet;

/** The face of the class is the document's, and has nothing more; the promise of the new object. */
final class FaceTest {
    private static final String FACE = "feed(int,int,int,int,int)int text(int)int fault(int)int named(int,int)int "
            + "amount(int,int)int kind(int,int)int deed(int,int)int done(int,int)int twin(int,int)int apart()int "
            + "law(int,int,int)long does(int,int,boolean)int give(int,int)int exchange(int)boolean go(int)int "
            + "ahead(int,int,int)int nextLevel()int nextOut()int cheap(int)int few(int)int plan(int,int,int)int "
            + "sign()int tells()int wanted(int)int best(int)int rests()int rest(int)int sure(int,int,int)long "
            + "happier()int alone(int,int)int mean(int,int,int,int)int nearest(int,int)int payers(int)int "
            + "healed(int)int due(int)int busiest()int note(int,int,boolean)int see(int,int,int,boolean)int "
            + "strike(int)int known(int)boolean who()int healings(int)int chance(int,int,int)int "
            + "tried(int,int,int)int undo()int keep()int back()int count(int)int";

    public static void main(String[] args) {
        Check check = new Check("FaceTest");
        Set<String> due = new TreeSet<>(Arrays.asList(FACE.split(" ")));
        Set<String> found = new TreeSet<>();
        Set<String> names = new TreeSet<>();
        for (Method m : TwoLevel.class.getDeclaredMethods()) {
            if (!Modifier.isPrivate(m.getModifiers())) {
                check.due(m.getName() + " is public and of an object", isPublic(m.getModifiers()), true);
                found.add(signature(m));
                names.add(m.getName());
            }
        }
        for (Method m : TwoLevel.class.getDeclaredMethods()) {
            if (Modifier.isPrivate(m.getModifiers())) {
                check.due("a private method bears a public name: " + m.getName(), names.contains(m.getName()), false);
            }
        }
        if (!found.equals(due)) {
            System.out.println("found " + found + "\ndue " + due);
        }
        check.due("the methods are the document's", found.equals(due), true);
        for (Constructor<?> c : TwoLevel.class.getDeclaredConstructors()) {
            check.due("a constructor is public without parameters", isPublic(c.getModifiers())
                    && c.getParameterCount() == 0, true);
        }
        for (Field f : TwoLevel.class.getDeclaredFields()) {
            boolean isPrivate = Modifier.isPrivate(f.getModifiers());
            check.due("a field that others see: " + f.getName(), isPrivate || f.getName().equals("NONE"), true);
        }
        check.due("final", Modifier.isFinal(TwoLevel.class.getModifiers()), true);
        check.due("NONE", TwoLevel.NONE, -1);
        newObject(check);
        check.end();
    }

    private static boolean isPublic(int modifiers) {
        return Modifier.isPublic(modifiers) && !Modifier.isStatic(modifiers);
    }

    private static String signature(Method m) {
        StringBuilder s = new StringBuilder(m.getName()).append('(');
        for (Class<?> c : m.getParameterTypes()) {
            s.append(s.charAt(s.length() - 1) == '(' ? "" : ",").append(c.getName());
        }
        return s.append(')').append(m.getReturnType().getName()).toString();
    }

    private static void newObject(Check check) {
        TwoLevel x = new TwoLevel();
        for (int what = 0; what <= 11; what++) {
            check.due("count(" + what + ") of a new object", x.count(what), 0);
        }
        check.due("fault(0) of a new object", x.fault(0), 0);
        check.due("fault(1) of a new object", x.fault(1), -1);
        check.due("text(1): the tape is empty", x.text(1), -2);
        check.due("text(0)", x.text(0), 0);
        check.due("back() of a new object", x.back(), -1);
        check.due("undo() of a new object", x.undo(), -1);
        check.due("apart() of a new object", x.apart(), 0);
    }
}
