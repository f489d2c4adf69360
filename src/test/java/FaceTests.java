import java.lang.reflect.Constructor;
import java.lang.reflect.Field;
import java.lang.reflect.Method;
import java.lang.reflect.Modifier;
import java.util.ArrayList;
import java.util.Arrays;
import java.util.List;
import java.util.TreeSet;

/** The public face of FogBellMarket is that of the document, and nothing else of the class is seen from outside. */
public final class FaceTests {
    private static final String FACE = String.join("\n",
        "int feed(int,int,int,int,int)", "int loadSetup()", "int runScript()", "int errorCode()", "int errorPosition()",
        "int minute()", "int bellPosition()", "int threshold()", "int duration()", "int undoCount()",
        "int fogIn(int) IllegalArgumentException", "boolean isOpen()", "boolean isReady()", "int openMinutes()",
        "int ringings()", "int minutesToBell()", "int minutesToEnd()", "int stallCount()",
        "int positionOf(int) IndexOutOfBoundsException", "int lanternOf(int) IndexOutOfBoundsException",
        "int textureOf(int) IndexOutOfBoundsException", "int priceOf(int) IndexOutOfBoundsException",
        "int stockOf(int) IndexOutOfBoundsException", "int heldOf(int) IndexOutOfBoundsException",
        "int soldOf(int) IndexOutOfBoundsException", "int lostOf(int) IndexOutOfBoundsException",
        "int earnings(int) IndexOutOfBoundsException", "int reach(int,int) IllegalArgumentException",
        "int seenFrom(int) IllegalArgumentException", "int buyerCount()", "int placeOf(int) IndexOutOfBoundsException",
        "int coinsOf(int) IndexOutOfBoundsException", "int wantedTexture(int) IndexOutOfBoundsException",
        "int speedOf(int) IndexOutOfBoundsException", "int heldFrom(int) IndexOutOfBoundsException",
        "int debtOf(int) IndexOutOfBoundsException", "int avoidedBy(int) IndexOutOfBoundsException",
        "int boughtBy(int) IndexOutOfBoundsException", "int targetOf(int) IndexOutOfBoundsException",
        "int touch(int,int) IndexOutOfBoundsException", "int coinsInAll()", "int consistencyError()", "double meanPaid()",
        "float spoiledShare()", "int minutesToPay(int) IndexOutOfBoundsException",
        "int earningsAfter(int,int) IndexOutOfBoundsException IllegalArgumentException",
        "int bestPrice(int) IndexOutOfBoundsException", "int bestLantern(int) IndexOutOfBoundsException", "int nextPayer()",
        "int bestBellPosition()", "int addStall(int,int,int,int,int) IllegalArgumentException IllegalStateException",
        "int addBuyer(int,int,int,int) IllegalArgumentException IllegalStateException",
        "int setPrice(int,int) IndexOutOfBoundsException IllegalArgumentException",
        "int addStock(int,int) IndexOutOfBoundsException IllegalArgumentException IllegalStateException",
        "int setLantern(int,int) IndexOutOfBoundsException IllegalArgumentException",
        "int moveStall(int,int) IndexOutOfBoundsException IllegalArgumentException",
        "int setFog(int,int) IndexOutOfBoundsException IllegalArgumentException",
        "int putBack(int) IndexOutOfBoundsException IllegalStateException", "int passMinutes(int) IllegalArgumentException",
        "int undo() IllegalStateException", "int save(int) IllegalArgumentException",
        "int restore(int) IllegalArgumentException NoSuchElementException", "int writeRope()", "int outputByte(int)");

    private static int wrong = 0;

    public static void main(String[] args) {
        theMethodsAreThoseOfTheDocument();
        nothingElseIsSeen();
        noPrivateMethodBearsAPublicName();
        theClassesInsideAreHidden();
        System.out.println("the face: " + wrong + " wrong");
        if (wrong != 0) {
            System.exit(1);
        }
    }

    private static void check(String what, boolean good) {
        if (!good) {
            wrong++;
            System.out.println(what);
        }
    }

    private static String simpleNames(Class<?>[] types, String between) {
        List<String> names = new ArrayList<>();
        for (Class<?> type : types) {
            names.add(type.getSimpleName());
        }
        return String.join(between, names);
    }

    private static void theMethodsAreThoseOfTheDocument() {
        TreeSet<String> due = new TreeSet<>(Arrays.asList(FACE.split("\n")));
        TreeSet<String> found = new TreeSet<>();
        for (Method method : FogBellMarket.class.getDeclaredMethods()) {
            if (!Modifier.isPrivate(method.getModifiers())) {
                check("not an instance method for all: " + method, method.getModifiers() == Modifier.PUBLIC);
                String thrown = simpleNames(method.getExceptionTypes(), " ");
                found.add((method.getReturnType().getSimpleName() + " " + method.getName() + "("
                    + simpleNames(method.getParameterTypes(), ",") + ") " + thrown).trim());
            }
        }
        for (String method : due) {
            check("missing: " + method, found.contains(method));
        }
        for (String method : found) {
            check("not in the document: " + method, due.contains(method));
        }
        check("64 methods in the face", due.size() == 64);
    }

    private static void nothingElseIsSeen() {
        int whole = FogBellMarket.class.getModifiers();
        check("the class is public and final", Modifier.isPublic(whole) && Modifier.isFinal(whole));
        for (Field field : FogBellMarket.class.getDeclaredFields()) {
            boolean none = field.getName().equals("NONE")
                && field.getModifiers() == (Modifier.PUBLIC | Modifier.STATIC | Modifier.FINAL) && field.getType() == int.class;
            check("a field is seen: " + field, none || Modifier.isPrivate(field.getModifiers()));
        }
        Constructor<?>[] constructors = FogBellMarket.class.getDeclaredConstructors();
        check("one public constructor without parameters", constructors.length == 1
            && constructors[0].getModifiers() == Modifier.PUBLIC && constructors[0].getParameterCount() == 0);
    }

    private static void noPrivateMethodBearsAPublicName() {
        TreeSet<String> publicNames = new TreeSet<>();
        for (Method method : FogBellMarket.class.getMethods()) {
            if (method.getDeclaringClass() == FogBellMarket.class) {
                publicNames.add(method.getName());
            }
        }
        for (Method method : FogBellMarket.class.getDeclaredMethods()) {
            check("private and public: " + method.getName(),
                !Modifier.isPrivate(method.getModifiers()) || !publicNames.contains(method.getName()));
        }
        for (Class<?> inner : FogBellMarket.class.getDeclaredClasses()) {
            for (Method method : inner.getDeclaredMethods()) {
                check("inside and public: " + inner.getSimpleName() + "." + method.getName(), !publicNames.contains(method.getName()));
            }
        }
    }

    private static void theClassesInsideAreHidden() {
        for (Class<?> inner : FogBellMarket.class.getDeclaredClasses()) {
            int modifiers = inner.getModifiers();
            check("seen or not static: " + inner, Modifier.isStatic(modifiers)
                && !Modifier.isPublic(modifiers) && !Modifier.isProtected(modifiers));
        }
        check("at most twelve classes", FogBellMarket.class.getDeclaredClasses().length <= 11);
    }
}
