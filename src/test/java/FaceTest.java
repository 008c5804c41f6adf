import java.lang.reflect.Constructor;
import java.lang.reflect.Field;
import java.lang.reflect.Member;
import java.lang.reflect.Method;
import java.lang.reflect.Modifier;
import java.util.Arrays;
import java.util.Set;
import java.util.TreeSet;

/** The class has the document's face, and nothing beside it but private members. */
public final class FaceTest {
    private static final String[] FACE = {
        "public static final int NONE",
        "public EpochLedger(int)",
        "public boolean submit(int, int)",
        "public boolean begin(int)",
        "public int run(int, int)",
        "public int deliver(int, int)",
        "public boolean betray()",
        "public boolean speak(int, int, int, int, int, int)",
        "public int epoch(int)",
        "public int ledger(int, int)",
        "public int queue(int, int)",
        "public int waiting(int)",
        "public int instance(int, int, int)",
        "public int coin(int, int, int)",
        "public int root(int, int)"};

    private static final Set<String> FOUND = new TreeSet<>();

    private static boolean isOwn(Member member) {
        return !Modifier.isPrivate(member.getModifiers()) && !member.isSynthetic();
    }

    private static String plain(String text) {
        return text.replace("EpochLedger.EpochLedger", "EpochLedger").replace("EpochLedger.", "").replace(",", ", ");
    }

    public static void main(String[] args) {
        Due due = new Due();
        Class<EpochLedger> face = EpochLedger.class;
        due.is("modifiers", Modifier.PUBLIC | Modifier.FINAL, face.getModifiers());
        for (Field field : face.getDeclaredFields()) {
            if (isOwn(field)) {
                FOUND.add(plain(field.toString()));
            }
        }
        for (Constructor<?> constructor : face.getDeclaredConstructors()) {
            if (isOwn(constructor)) {
                FOUND.add(plain(constructor.toString()));
            }
        }
        Set<String> publicNames = new TreeSet<>();
        for (Method method : face.getDeclaredMethods()) {
            if (isOwn(method)) {
                FOUND.add(plain(method.toString()));
                publicNames.add(method.getName());
            }
        }
        Set<String> missing = new TreeSet<>(Arrays.asList(FACE));
        missing.removeAll(FOUND);
        due.is("members of the face that are missing " + missing, 0, missing.size());
        FOUND.removeAll(Arrays.asList(FACE));
        due.is("members that the face does not have " + FOUND, 0, FOUND.size());
        for (Class<?> inside : face.getDeclaredClasses()) {
            due.yes(inside + " is static", Modifier.isStatic(inside.getModifiers()));
            for (Method method : inside.getDeclaredMethods()) {
                due.no(method + " bears a name of the face", publicNames.contains(method.getName()));
            }
        }
        due.end();
    }
}
