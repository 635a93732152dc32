import java.lang.reflect.Constructor;
import java.lang.reflect.Field;
import java.lang.reflect.Method;
import java.lang.reflect.Modifier;
import java.util.Arrays;
import java.util.Set;
import java.util.TreeSet;

/** The public face, and that objects have nothing in common. */
final class FaceTest {

    private static final String[] METHODS = {
        "int bill(int,int,int,int,int)",
        "int receive(int,int,int)",
        "int assign(int,int)",
        "int apply(int)",
        "int payBack(int)",
        "int bounce(int)",
        "int settle(int,boolean)",
        "int advance(int)",
        "int bills()",
        "int open(int)",
        "int due(int)",
        "int paid(int)",
        "int taken(int)",
        "int disputed(int)",
        "int writtenOff(int)",
        "int openOf(int)",
        "int setFor(int,int,int)",
        "int receipts()",
        "int customerOf(int)",
        "int appliedTo(int,int)",
        "int unapplied(int)",
        "boolean hasBounced(int)",
        "int day()",
        "int received()",
        "int applied()",
        "int allUnapplied()",
        "int paidBack()",
        "int bounced()",
    };

    public static void main(String[] args) {
        hasJustTheMethodsOfTheDocument();
        hasJustOneConstructorAndOneConstant();
        startsAnewWithEachObject();
        Check.finish();
    }

    private static void hasJustTheMethodsOfTheDocument() {
        Check.same("final", Modifier.isFinal(CashAllocator.class.getModifiers()), true);
        Check.same("public", Modifier.isPublic(CashAllocator.class.getModifiers()), true);
        Set<String> due = new TreeSet<>(Arrays.asList(METHODS));
        Set<String> found = new TreeSet<>();
        for (Method method : CashAllocator.class.getDeclaredMethods()) {
            if (!Modifier.isPrivate(method.getModifiers())) {
                Check.same("static " + method, Modifier.isStatic(method.getModifiers()), false);
                found.add(told(method));
            }
        }
        Check.same("methods", found.toString(), due.toString());
    }

    private static String told(Method method) {
        StringBuilder text = new StringBuilder(method.getReturnType().getName());
        text.append(' ').append(method.getName()).append('(');
        String comma = "";
        for (Class<?> parameter : method.getParameterTypes()) {
            text.append(comma).append(parameter.getName());
            comma = ",";
        }
        return text.append(')').toString();
    }

    private static void hasJustOneConstructorAndOneConstant() {
        Constructor<?>[] constructors = CashAllocator.class.getDeclaredConstructors();
        Check.same("constructors", constructors.length, 1);
        Check.same("parameters", constructors[0].getParameterCount(), 0);
        Check.same("public constructor", Modifier.isPublic(constructors[0].getModifiers()), true);
        Set<String> found = new TreeSet<>();
        for (Field field : CashAllocator.class.getDeclaredFields()) {
            if (!Modifier.isPrivate(field.getModifiers())) {
                found.add(Modifier.toString(field.getModifiers()) + " " + field.getType() + " " + field.getName());
            }
        }
        Check.same("fields", found.toString(), "[public static final int NONE]");
        Check.same("NONE", CashAllocator.NONE, -1);
    }

    private static void startsAnewWithEachObject() {
        CashAllocator first = new CashAllocator();
        first.bill(0, 10, 1, 0, 0);
        first.receive(0, 4, 0);
        first.advance(3);
        CashAllocator second = new CashAllocator();
        Check.same("bills of another", second.bills(), 0);
        Check.same("day of another", second.day(), 0);
        Check.same("received of another", second.received(), 0);
    }
}
