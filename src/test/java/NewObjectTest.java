import java.lang.reflect.Field;
import java.lang.reflect.Member;
import java.lang.reflect.Method;
import java.lang.reflect.Modifier;
import java.util.Arrays;
import java.util.Set;
import java.util.TreeSet;

/** Promises 1, 2, 32 and 33 on an object on which nothing was called yet, and the public face. */
public final class NewObjectTest {
    private static final String[] FACE = {
        "int status()",
        "boolean tray(int,int,int)",
        "boolean write(int,int,long)",
        "long read(int,int)",
        "boolean pour(int,int,int,int,int)",
        "int thing(int,int)",
        "int told(int,int)",
        "boolean say(int,int,int)",
        "int has(int,int)",
        "boolean span(int,int,int)",
        "boolean noSpan(int)",
        "int held(int,boolean)",
        "int quarrel(int)",
        "boolean count(int,int)",
        "boolean join(int,int)",
        "boolean close(int,int,int)",
        "int sees(int,int,int)",
        "int number(int,int,int,int)",
        "int find(int,int,int,int,int)",
        "boolean mark(int,int)",
        "int walk(int,int,int)",
        "boolean fetch(int,int,int)",
        "boolean back(int,int)",
        "int where(int,int)",
        "boolean stand(int,int)",
        "boolean goal(int,int)",
        "int plan()",
        "int carry(int,int)",
        "boolean carried()",
        "int search(int,int,int)",
        "long upper()",
        "long lower()",
    };

    private static final Checks c = new Checks();

    public static void main(String[] args) {
        newObject();
        status();
        objectsAreApart();
        lastPromisedCall();
        face();
        c.end();
    }

    private static void newObject() {
        BoxArchive x = new BoxArchive();
        c.due("1: STATUS", x.status(), 0);
        c.due("1: upper", x.upper(), 0);
        c.due("1: lower", x.lower(), 1);
        for (int tray = 0; tray < 4; tray++) {
            c.refuses("1: a TRAY is MISSING", x, x.read(tray, 0), 3);
        }
        c.refuses("1: no THINGS", x, x.told(0, 0), 2);
        c.refuses("1: no QUARREL", x, x.quarrel(0), 9);
        c.refuses("1: no WALK", x, x.walk(0, 0, 0), 9);
        c.gives("1: no CARRIES", x, x.plan(), 0);
        c.gives("1: the first THING", x, x.thing(0, -1), 0);
        c.gives("1: an empty LOG", x, x.where(0, 100_000), -1);
        c.does("1: an empty LOG has no tick that is gone", x, x.fetch(0, 0, 0));
    }

    private static void status() {
        BoxArchive x = new BoxArchive();
        x.read(4, 0);
        c.due("2: a call that was refused", x.status(), 1);
        x.upper();
        x.lower();
        x.status();
        c.due("2: calls without a STATUS leave it", x.status(), 1);
        x.plan();
        c.due("2: the next call that has one", x.status(), 0);
        x.read(0, 0);
        x.thing(9, 9);
        c.due("2: of two that were refused the latest", x.status(), 5);
    }

    private static void objectsAreApart() {
        BoxArchive x = new BoxArchive();
        BoxArchive y = new BoxArchive();
        x.thing(0, -1);
        x.tray(0, 0, 1);
        c.refuses("1: another object's THINGS", y, y.told(0, 0), 2);
        c.refuses("1: another object's TRAYS", y, y.read(0, 0), 3);
        c.due("2: another object's STATUS", x.status(), 0);
    }

    /** "An object is used for at most 512 calls": the 512th is one of them. */
    private static void lastPromisedCall() {
        BoxArchive x = new BoxArchive();
        x.thing(0, -1);
        for (int call = 2; call < 510; call++) {
            c.due("1: call " + call, x.say(0, 5, call % 1_000) ? 1 : 0, 1);
        }
        c.due("2: call 510", x.status(), 0);
        c.due("10: call 511", x.has(0, 5), 509);
        c.due("7: call 512", x.thing(1, 0), 1);
    }

    private static void face() {
        Set<String> want = new TreeSet<>(Arrays.asList(FACE));
        Set<String> got = new TreeSet<>();
        for (Method m : BoxArchive.class.getDeclaredMethods()) {
            if (isVisible(m)) {
                got.add(signature(m));
            }
        }
        if (!got.equals(want)) {
            System.out.println("the methods are " + got);
        }
        c.due("face: methods", got.equals(want) ? 1 : 0, 1);
        c.due("face: final", Modifier.isFinal(BoxArchive.class.getModifiers()) ? 1 : 0, 1);
        c.due("face: constructors", BoxArchive.class.getDeclaredConstructors().length, 1);
        int visible = 0;
        for (Field f : BoxArchive.class.getDeclaredFields()) {
            visible += isVisible(f) ? 1 : 0;
        }
        c.due("face: constants", visible, 1);
        c.due("face: NONE", BoxArchive.NONE, -1);
    }

    private static boolean isVisible(Member m) {
        return !Modifier.isPrivate(m.getModifiers()) && !m.isSynthetic();
    }

    private static String signature(Method m) {
        StringBuilder text = new StringBuilder(m.getReturnType().getName());
        text.append(' ').append(m.getName()).append('(');
        for (Class<?> type : m.getParameterTypes()) {
            text.append(text.charAt(text.length() - 1) == '(' ? "" : ",").append(type.getName());
        }
        return text.append(')').toString();
    }
}
