import java.lang.reflect.Constructor;
import java.lang.reflect.Field;
import java.lang.reflect.Method;
import java.lang.reflect.Modifier;
import java.util.TreeSet;

/** The class shows the document's face and nothing else, and its members are as LANGUAGE.md wants them. */
public final class FaceTest {
    private static final String[] FACE = {
        "public ThursdayRungs()",
        "public static final int ThursdayRungs.FULL", "public static final int ThursdayRungs.NONE",
        "public static final int ThursdayRungs.OUTSIDE", "public static final int ThursdayRungs.STATE",
        "public static final int ThursdayRungs.UNKNOWN",
        "public int ThursdayRungs.arrives(int,int)", "public int ThursdayRungs.as(int,int)",
        "public int ThursdayRungs.blank()", "public int ThursdayRungs.child(int,int)",
        "public int ThursdayRungs.count(int)", "public int ThursdayRungs.cure(int)",
        "public int ThursdayRungs.fault()", "public int ThursdayRungs.forget()",
        "public int ThursdayRungs.from(int,int)", "public int ThursdayRungs.hear(int,int,int)",
        "public int ThursdayRungs.ill(int,boolean)", "public int ThursdayRungs.image()",
        "public int ThursdayRungs.letter(int)", "public int ThursdayRungs.restore()",
        "public int ThursdayRungs.school()", "public int ThursdayRungs.slip(int,int)",
        "public int ThursdayRungs.soon()", "public int ThursdayRungs.teaches(int,int)",
        "public int ThursdayRungs.tell(int,int)", "public int ThursdayRungs.terms(int,int,int)",
        "public int ThursdayRungs.thursday()", "public long ThursdayRungs.digest()",
    };

    private static boolean right = true;

    private static void due(String what, boolean holds) {
        if (!holds) {
            right = false;
            System.out.println("not so: " + what);
        }
    }

    public static void main(String[] args) {
        TreeSet<String> due = new TreeSet<>();
        for (String member : FACE) {
            due.add(member);
        }
        TreeSet<String> shown = shownMembers(ThursdayRungs.class);
        due("the face is " + due + ", but " + shown + " is shown", due.equals(shown));
        int modifiers = ThursdayRungs.class.getModifiers();
        due("the class is public and final", Modifier.isPublic(modifiers) && Modifier.isFinal(modifiers));
        noPrivateMethodBearsAPublicName();
        staticFieldsAreFinal(ThursdayRungs.class);
        for (Class<?> inside : ThursdayRungs.class.getDeclaredClasses()) {
            classInside(inside);
        }
        System.out.println(right ? "the face is as due" : "the face is not as due");
        if (!right) {
            System.exit(1);
        }
    }

    private static void noPrivateMethodBearsAPublicName() {
        TreeSet<String> publicNames = new TreeSet<>();
        for (Method method : ThursdayRungs.class.getMethods()) {
            publicNames.add(method.getName());
        }
        for (Method method : ThursdayRungs.class.getDeclaredMethods()) {
            due("private " + method.getName() + " has a name of its own",
                !Modifier.isPrivate(method.getModifiers()) || !publicNames.contains(method.getName()));
        }
    }

    private static void staticFieldsAreFinal(Class<?> type) {
        for (Field field : type.getDeclaredFields()) {
            int modifiers = field.getModifiers();
            due("static " + field + " is final", !Modifier.isStatic(modifiers) || Modifier.isFinal(modifiers));
        }
    }

    private static void classInside(Class<?> type) {
        int modifiers = type.getModifiers();
        due(type + " is static", Modifier.isStatic(modifiers));
        due(type + " is neither public nor protected",
            !Modifier.isPublic(modifiers) && !Modifier.isProtected(modifiers));
        staticFieldsAreFinal(type);
    }

    private static TreeSet<String> shownMembers(Class<?> type) {
        TreeSet<String> shown = new TreeSet<>();
        for (Field field : type.getDeclaredFields()) {
            if (!Modifier.isPrivate(field.getModifiers())) {
                shown.add(field.toString());
            }
        }
        for (Constructor<?> constructor : type.getDeclaredConstructors()) {
            if (!Modifier.isPrivate(constructor.getModifiers())) {
                shown.add(constructor.toString());
            }
        }
        for (Method method : type.getDeclaredMethods()) {
            if (!Modifier.isPrivate(method.getModifiers())) {
                shown.add(method.toString());
            }
        }
        return shown;
    }
}
