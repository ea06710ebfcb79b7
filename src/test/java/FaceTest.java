import java.lang.reflect.Constructor;
import java.lang.reflect.Field;
import java.lang.reflect.Method;
import java.lang.reflect.Modifier;
import java.util.Set;
import java.util.TreeSet;

/** The class has the face of the document, and nothing else that is seen from outside. */
public final class FaceTest {
    private static final String[] FACE = {
        "public static final int NONE",
        "public Leavebank()",
        "public int addPerson(int,int) throws A S",
        "public int setHours(int,int,int) throws I A S",
        "public int request(int,int,int,boolean) throws I A S",
        "public int change(int,int,int) throws I A S",
        "public void cancel(int) throws I S",
        "public int sick(int,int,int) throws I A S",
        "public int payOut(int,int) throws I A S",
        "public int pass(int) throws A S",
        "public int today()",
        "public int people()",
        "public int workingDays(int,int) throws A",
        "public int hours(int,int) throws I A",
        "public int onLeave(int,int) throws I A",
        "public int balance(int,int) throws I A",
        "public int balanceBySums(int,int) throws I A",
        "public int earned(int,int) throws I A",
        "public int taken(int,int) throws I A",
        "public int expired(int,int) throws I A",
        "public int paid(int,int) throws I A",
        "public int borrowed(int,int) throws I A",
        "public int unpaid(int,int) throws I A",
        "public int nextExpiry(int,int) throws I A",
    };

    public static void main(String[] args) {
        Set<String> due = new TreeSet<>(Set.of(FACE));
        Set<String> seen = seenFromOutside();
        boolean isWrong = !due.equals(seen);
        if (isWrong) {
            System.out.println("due:  " + due + "\nseen: " + seen);
        }
        if (Leavebank.class.getModifiers() != (Modifier.PUBLIC | Modifier.FINAL)) {
            System.out.println("the class is " + Modifier.toString(Leavebank.class.getModifiers()));
            isWrong = true;
        }
        if (isWrong) {
            System.exit(1);
        }
    }

    private static Set<String> seenFromOutside() {
        Set<String> seen = new TreeSet<>();
        for (Field field : Leavebank.class.getDeclaredFields()) {
            if (!Modifier.isPrivate(field.getModifiers())) {
                seen.add(Modifier.toString(field.getModifiers()) + " " + field.getType() + " " + field.getName());
            }
        }
        for (Constructor<?> constructor : Leavebank.class.getDeclaredConstructors()) {
            seen.add(constructor.toString().trim());
        }
        for (Method method : Leavebank.class.getDeclaredMethods()) {
            if (!Modifier.isPrivate(method.getModifiers())) {
                seen.add(shortForm(method.toString()));
            }
        }
        return seen;
    }

    private static String shortForm(String method) {
        return method.replace("Leavebank.", "")
                .replace("java.lang.IndexOutOfBoundsException", "I")
                .replace("java.lang.IllegalArgumentException", "A")
                .replace("java.lang.IllegalStateException", "S")
                .replace("I,A", "I A").replace("A,S", "A S").replace("I,S", "I S");
    }
}
