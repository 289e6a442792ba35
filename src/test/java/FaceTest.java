import java.lang.reflect.Constructor;
import java.lang.reflect.Field;
import java.lang.reflect.Method;
import java.lang.reflect.Modifier;
import java.util.TreeSet;

/** The class shows the document's face and nothing else. */
public final class FaceTest {
    private static final String[] FACE = {
        "public ThursdayRungs()",
        "public static final int ThursdayRungs.FULL", "public static final int ThursdayRungs.NONE",
        "public static final int ThursdayRungs.OUTSIDE", "public static final int ThursdayRungs.STATE",
        "public static final int ThursdayRungs.UNKNOWN",
        "public int ThursdayRungs.arrives(int,int)", "public int ThursdayRungs.as(int,int)",
        "public int ThursdayRungs.blank()", "public int ThursdayRungs.child(int,int)",
        "public int ThursdayRungs.count(int)", "public int ThursdayRungs.cure(int)",
        "public int ThursdayRungs.fault()", "public int ThursdayRungs.forget()",
        "public int ThursdayRungs.from(int,int)", "public int ThursdayRungs.hear(int,int,int)",
        "public int ThursdayRungs.ill(int,boolean)", "public int ThursdayRungs.image()",
        "public int ThursdayRungs.letter(int)", "public int ThursdayRungs.restore()",
        "public int ThursdayRungs.school()", "public int ThursdayRungs.slip(int,int)",
        "public int ThursdayRungs.soon()", "public int ThursdayRungs.teaches(int,int)",
        "public int ThursdayRungs.tell(int,int)", "public int ThursdayRungs.terms(int,int,int)",
        "public int ThursdayRungs.thursday()", "public long ThursdayRungs.digest()",
    };

    public static void main(String[] args) {
        TreeSet<String> due = new TreeSet<>();
        for (String member : FACE) {
            due.add(member);
        }
        TreeSet<String> shown = shownMembers(ThursdayRungs.class);
        int modifiers = ThursdayRungs.class.getModifiers();
        boolean right = due.equals(shown) && Modifier.isPublic(modifiers) && Modifier.isFinal(modifiers);
        System.out.println(right ? "the face is as due" : "the face is " + shown + ", due is " + due);
        if (!right) {
            System.exit(1);
        }
    }

    private static TreeSet<String> shownMembers(Class<?> type) {
        TreeSet<String> shown = new TreeSet<>();
        for (Field field : type.getDeclaredFields()) {
            if (!Modifier.isPrivate(field.getModifiers())) {
                shown.add(field.toString());
            }
        }
        for (Constructor<?> constructor : type.getDeclaredConstructors()) {
            if (!Modifier.isPrivate(constructor.getModifiers())) {
                shown.add(constructor.toString());
            }
        }
        for (Method method : type.getDeclaredMethods()) {
            if (!Modifier.isPrivate(method.getModifiers())) {
                shown.add(method.toString());
            }
        }
        return shown;
    }
}
