import java.lang.reflect.Constructor;
import java.lang.reflect.Field;
import java.lang.reflect.Member;
import java.lang.reflect.Method;
import java.lang.reflect.Modifier;
import java.util.Set;
import java.util.TreeSet;

/** The public face: what the document lists, and no other member that is not private. */
public final class FaceTest {
    private static final Set<String> DUE = Set.of(
        "public static final int NameTable.REFUSED",
        "public static final int NameTable.NONE",
        "public static final int NameTable.THERE",
        "public static final int NameTable.FULL",
        "public NameTable()",
        "public int NameTable.add(long,int,int)",
        "public int NameTable.some(long,long,int,int)",
        "public int NameTable.remove(long,int)",
        "public int NameTable.take(int)",
        "public int NameTable.get(long,int)",
        "public long NameTable.name(int)",
        "public int NameTable.index(int)",
        "public int NameTable.many()",
        "public long NameTable.value()");

    public static void main(String[] args) {
        Check check = new Check();
        check.due("REFUSED", NameTable.REFUSED, -1);
        check.due("NONE", NameTable.NONE, -2);
        check.due("THERE", NameTable.THERE, -3);
        check.due("FULL", NameTable.FULL, -4);
        check.due("the class's modifiers", NameTable.class.getModifiers(), Modifier.PUBLIC | Modifier.FINAL);
        Set<String> seen = seenMembers();
        for (String member : DUE) {
            check.due("members like " + member, seen.contains(member) ? 1 : 0, 1);
        }
        for (String member : seen) {
            check.due("right to show " + member, DUE.contains(member) ? 1 : 0, 1);
        }
        check.end();
    }

    private static Set<String> seenMembers() {
        Set<String> seen = new TreeSet<>();
        for (Field field : NameTable.class.getDeclaredFields()) {
            addIfSeen(seen, field, field.toString());
        }
        for (Constructor<?> constructor : NameTable.class.getDeclaredConstructors()) {
            addIfSeen(seen, constructor, constructor.toString());
        }
        for (Method method : NameTable.class.getDeclaredMethods()) {
            addIfSeen(seen, method, method.toString());
        }
        return seen;
    }

    private static void addIfSeen(Set<String> seen, Member member, String text) {
        if (!Modifier.isPrivate(member.getModifiers())) {
            seen.add(text);
        }
    }
}
