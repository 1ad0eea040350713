import java.lang.reflect.Constructor;
import java.lang.reflect.Field;
import java.lang.reflect.Member;
import java.lang.reflect.Method;
import java.lang.reflect.Modifier;
import java.util.Set;
import java.util.TreeSet;

/** The public face, to the letter, and nothing beside it. */
public final class FaceTest {
    private static final Set<String> FACE = Set.of(
            "public static final int ClockDesk.NONE",
            "public static final long ClockDesk.NO_OFFSET",
            "public ClockDesk()",
            "public boolean ClockDesk.interval(int,long,long)",
            "public long ClockDesk.exchange(int,long,long,long)",
            "public boolean ClockDesk.drop(int)",
            "public int ClockDesk.sources()",
            "public int ClockDesk.covers(long)",
            "public int ClockDesk.greatest()",
            "public long ClockDesk.region(int)",
            "public long ClockDesk.hull(int,int)",
            "public boolean ClockDesk.chosen(int)",
            "public long ClockDesk.mean(long,int)",
            "public int ClockDesk.survivors(int)",
            "public int ClockDesk.rank(int,int)",
            "public boolean ClockDesk.tick(long)",
            "public boolean ClockDesk.steer()",
            "public long ClockDesk.read()",
            "public long ClockDesk.offset(int)",
            "public long ClockDesk.settles()");

    public static void main(String[] args) {
        Check check = new Check();
        Set<String> seen = new TreeSet<>();
        Set<String> publicNames = new TreeSet<>();
        for (Field field : ClockDesk.class.getDeclaredFields()) {
            note(field, field.toString(), seen);
        }
        for (Constructor<?> constructor : ClockDesk.class.getDeclaredConstructors()) {
            note(constructor, constructor.toString(), seen);
        }
        for (Method method : ClockDesk.class.getDeclaredMethods()) {
            note(method, method.toString(), seen);
            if (Modifier.isPublic(method.getModifiers())) {
                publicNames.add(method.getName());
            }
        }
        for (String member : FACE) {
            check.due("has " + member, seen.contains(member), true);
        }
        for (String member : seen) {
            check.due("promised " + member, FACE.contains(member), true);
        }
        for (Method method : ClockDesk.class.getDeclaredMethods()) {
            if (Modifier.isPrivate(method.getModifiers())) {
                check.due("public name " + method, publicNames.contains(method.getName()), false);
            }
        }
        int modifiers = ClockDesk.class.getModifiers();
        check.due("public final", Modifier.isPublic(modifiers) && Modifier.isFinal(modifiers), true);
        check.due("NONE", ClockDesk.NONE, -1);
        check.due("NO_OFFSET", ClockDesk.NO_OFFSET, -4611686018427387904L);
        check.end();
    }

    private static void note(Member member, String text, Set<String> seen) {
        if (!Modifier.isPrivate(member.getModifiers())) {
            seen.add(text);
        }
    }
}
