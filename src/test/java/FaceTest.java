import java.lang.reflect.Member;
import java.lang.reflect.Modifier;
import java.util.ArrayList;
import java.util.Collections;
import java.util.List;

/** The class has the document's face, and no other member that is not private. */
public final class FaceTest {
    private static final String[] FACE = {
        "public NumberText()",
        "public int NumberText.character(int)",
        "public int NumberText.digits(long,int) throws java.lang.IllegalArgumentException",
        "public int NumberText.full(long)",
        "public int NumberText.layout(int) throws java.lang.IllegalArgumentException",
        "public int NumberText.place()",
        "public int NumberText.places(long,int) throws java.lang.IllegalArgumentException",
        "public int NumberText.shown(int,int)",
        "public int NumberText.type(long,int)",
        "public int NumberText.wipe()",
        "public int NumberText.write(long)",
        "public long NumberText.read() throws java.lang.IllegalArgumentException",
        "public static final int NumberText.NONE",
        "public void NumberText.set(int,int,long) throws java.lang.IndexOutOfBoundsException",
        "public void NumberText.table(int,int) throws java.lang.IllegalArgumentException",
    };

    public static void main(String[] args) {
        Check check = new Check();
        List<String> found = new ArrayList<>();
        addVisible(found, NumberText.class.getDeclaredConstructors());
        addVisible(found, NumberText.class.getDeclaredMethods());
        addVisible(found, NumberText.class.getDeclaredFields());
        Collections.sort(found);
        check.due("the face", String.join("\n", found), String.join("\n", FACE));
        check.due("the class", Modifier.toString(NumberText.class.getModifiers()), "public final");
        for (Class<?> inside : NumberText.class.getDeclaredClasses()) {
            check.due(inside + " is static and not public", inside.getModifiers()
                    & (Modifier.STATIC | Modifier.PUBLIC | Modifier.PROTECTED), Modifier.STATIC);
        }
        check.end();
    }

    private static void addVisible(List<String> found, Member[] members) {
        for (Member member : members) {
            if (!Modifier.isPrivate(member.getModifiers()) && !member.isSynthetic()) {
                found.add(member.toString());
            }
        }
    }
}
