import java.lang.reflect.Executable;
import java.lang.reflect.Field;
import java.lang.reflect.Method;
import java.lang.reflect.Modifier;
import java.util.Arrays;
import java.util.Set;
import java.util.TreeSet;

/** The public face: the document's constants, constructor and methods, and no other. */
final class FaceTest {
    private static final Set<String> METHODS = Set.of(
        "append(int)", "clearBuffer()", "errorPosition()", "addGlass()", "removeGlass(int)",
        "glassCount()", "index(int,int)", "placeByName(int)", "abbe(int)", "partial(int)",
        "glassWithAbbe(int)", "doubletPower(int,int,int,int)", "secondarySpectrum(int,int,int)",
        "doubletAt(boolean,int)", "doubletCount()", "tripletPower(int,int,int,int,int)",
        "bestTriplet()", "addLens(int,int)", "removeLens(int)", "lensCount()", "systemPower(int)",
        "balancePower(int)", "findWrongGlass(long,long,long)", "addPlate(int)", "plateCount()",
        "nearestPlate(int)", "bestSurfaces(int)", "surfacePower(int,int)", "digest()");
    private static final Set<String> CONSTANTS = Set.of(
        "OUT_OF_RANGE", "NO_SUCH_GLASS", "NO_SUCH_LENS", "FULL", "INVALID_GLASS", "DUPLICATE", "IN_USE",
        "NOTHING");
    private static final Due DUE = new Due();

    public static void main(String[] args) {
        theClass();
        theMethods();
        theConstants();
        theNamesInside();
        DUE.end();
    }

    private static String signature(Executable method) {
        String types = String.join(",",
            Arrays.stream(method.getParameterTypes()).map(Class::getSimpleName).toList());
        return method.getName() + "(" + types + ")";
    }

    private static void theClass() {
        int modifiers = AchromatDesk.class.getModifiers();
        DUE.isTrue("the class is public", Modifier.isPublic(modifiers));
        DUE.isTrue("the class is final", Modifier.isFinal(modifiers));
        DUE.due("constructors", AchromatDesk.class.getDeclaredConstructors().length, 1);
        DUE.due("public constructors", AchromatDesk.class.getConstructors().length, 1);
        DUE.due("parameters of the constructor",
            AchromatDesk.class.getConstructors()[0].getParameterCount(), 0);
    }

    private static void theMethods() {
        Set<String> open = new TreeSet<>();
        for (Method method : AchromatDesk.class.getDeclaredMethods()) {
            if (!Modifier.isPrivate(method.getModifiers())) {
                open.add(signature(method));
                DUE.isTrue(method + " is public", Modifier.isPublic(method.getModifiers()));
                DUE.isTrue(method + " is no static one", !Modifier.isStatic(method.getModifiers()));
                DUE.isTrue(method + " answers a long", method.getReturnType() == long.class);
            }
        }
        DUE.isTrue("the methods are those of the document: " + open, open.equals(METHODS));
    }

    private static void theConstants() {
        Set<String> open = new TreeSet<>();
        for (Field field : AchromatDesk.class.getDeclaredFields()) {
            int modifiers = field.getModifiers();
            if (!Modifier.isPrivate(modifiers)) {
                open.add(field.getName());
                DUE.isTrue(field + " is public", Modifier.isPublic(modifiers));
                DUE.isTrue(field + " is a long", field.getType() == long.class);
            }
            DUE.isTrue(field + " is final if static",
                Modifier.isFinal(modifiers) || !Modifier.isStatic(modifiers));
        }
        DUE.isTrue("the constants are those of the document: " + open, open.equals(CONSTANTS));
        DUE.due("OUT_OF_RANGE", AchromatDesk.OUT_OF_RANGE, -9000000000000000001L);
        DUE.due("NO_SUCH_GLASS", AchromatDesk.NO_SUCH_GLASS, -9000000000000000002L);
        DUE.due("NO_SUCH_LENS", AchromatDesk.NO_SUCH_LENS, -9000000000000000003L);
        DUE.due("FULL", AchromatDesk.FULL, -9000000000000000004L);
        DUE.due("INVALID_GLASS", AchromatDesk.INVALID_GLASS, -9000000000000000005L);
        DUE.due("DUPLICATE", AchromatDesk.DUPLICATE, -9000000000000000006L);
        DUE.due("IN_USE", AchromatDesk.IN_USE, -9000000000000000007L);
        DUE.due("NOTHING", AchromatDesk.NOTHING, -9000000000000000008L);
    }

    private static void theNamesInside() {
        Set<String> taken = new TreeSet<>();
        METHODS.forEach(signature -> taken.add(signature.substring(0, signature.indexOf('('))));
        noneOf(taken, AchromatDesk.class);
        for (Class<?> inside : AchromatDesk.class.getDeclaredClasses()) {
            int modifiers = inside.getModifiers();
            DUE.isTrue(inside + " is static", Modifier.isStatic(modifiers));
            DUE.isTrue(inside + " is not open",
                !Modifier.isPublic(modifiers) && !Modifier.isProtected(modifiers));
            noneOf(taken, inside);
        }
    }

    private static void noneOf(Set<String> taken, Class<?> owner) {
        for (Method method : owner.getDeclaredMethods()) {
            boolean isPrivate = Modifier.isPrivate(method.getModifiers());
            DUE.isTrue(method + " bears no public name", !isPrivate || !taken.contains(method.getName()));
        }
    }
}
