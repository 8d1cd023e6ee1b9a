import java.lang.reflect.Constructor;
import java.lang.reflect.Field;
import java.lang.reflect.Method;
import java.lang.reflect.Modifier;
import java.util.Set;
import java.util.TreeSet;

/** The class shows the document's face and no other member. */
public final class FaceTest {
    private static final String[] FACE = {
        "public static final int NONE",
        "public InputRoom()",
        "public boolean make(int,int)",
        "public int plan(int,int,int)",
        "public boolean wake(int)",
        "public int suspend()",
        "public boolean signal(int)",
        "public boolean listen(int)",
        "public boolean alarm(int,int)",
        "public int word(int)",
        "public int run(int)",
        "public int active()",
        "public int present()",
        "public int clock()",
        "public long codes()",
        "public int done(int)",
        "public int row(int)",
        "public int at(int,int)",
        "public int extra(int)",
        "public int wordAt(int)",
        "public int input()",
        "public int tick()",
    };

    private static int wrong = 0;

    private static void complain(String text) {
        wrong++;
        System.out.println(text);
    }

    private static String types(Class<?>[] types) {
        StringBuilder text = new StringBuilder("(");
        for (int i = 0; i < types.length; i++) {
            text.append(i == 0 ? "" : ",").append(types[i].getSimpleName());
        }
        return text.append(")").toString();
    }

    private static Set<String> shown() {
        Set<String> shown = new TreeSet<>();
        for (Field f : InputRoom.class.getDeclaredFields()) {
            if (!Modifier.isPrivate(f.getModifiers())) {
                shown.add(Modifier.toString(f.getModifiers()) + " " + f.getType().getSimpleName() + " " + f.getName());
            }
        }
        for (Constructor<?> c : InputRoom.class.getDeclaredConstructors()) {
            if (!Modifier.isPrivate(c.getModifiers())) {
                shown.add(Modifier.toString(c.getModifiers()) + " InputRoom" + types(c.getParameterTypes()));
            }
        }
        for (Method m : InputRoom.class.getDeclaredMethods()) {
            if (!Modifier.isPrivate(m.getModifiers())) {
                shown.add(Modifier.toString(m.getModifiers()) + " " + m.getReturnType().getSimpleName()
                    + " " + m.getName() + types(m.getParameterTypes()));
            }
        }
        return shown;
    }

    private static void noPrivateMethodBearsAPublicName() {
        Set<String> publicNames = new TreeSet<>();
        for (Method m : InputRoom.class.getMethods()) {
            publicNames.add(m.getName());
        }
        for (Method m : InputRoom.class.getDeclaredMethods()) {
            if (Modifier.isPrivate(m.getModifiers()) && publicNames.contains(m.getName())) {
                complain("a private method bears the name " + m.getName());
            }
        }
    }

    private static void staticFieldsAreFinal() {
        for (Field f : InputRoom.class.getDeclaredFields()) {
            if (Modifier.isStatic(f.getModifiers()) && !Modifier.isFinal(f.getModifiers())) {
                complain("static and not final: " + f.getName());
            }
        }
    }

    public static void main(String[] args) {
        Set<String> due = new TreeSet<>(Set.of(FACE));
        Set<String> shown = shown();
        for (String member : due) {
            if (!shown.contains(member)) {
                complain("missing: " + member);
            }
        }
        for (String member : shown) {
            if (!due.contains(member)) {
                complain("not of the face: " + member);
            }
        }
        if (!Modifier.toString(InputRoom.class.getModifiers()).equals("public final")) {
            complain("the class is not public and final");
        }
        if (InputRoom.NONE != -1) {
            complain("NONE is " + InputRoom.NONE);
        }
        noPrivateMethodBearsAPublicName();
        staticFieldsAreFinal();
        System.out.println(wrong == 0 ? "the face is as due" : wrong + " members are not as due");
        if (wrong != 0) {
            System.exit(1);
        }
    }
}
