import java.lang.reflect.Constructor;
import java.lang.reflect.Field;
import java.lang.reflect.Method;
import java.lang.reflect.Modifier;
import java.util.Arrays;
import java.util.Set;
import java.util.TreeSet;
import java.util.stream.Collectors;

/** The public face of the document, with its exceptions, and nothing beside it. */
public final class FaceTest {
    private static final String FACE = """
            addKeeper() int IllegalState
            pass(int) int IllegalArgument
            day() int
            register(int,char) int IndexOutOfBounds,IllegalArgument,IllegalState
            bringIn(int,char) int IndexOutOfBounds,IllegalArgument,IllegalState
            admit(int) int IndexOutOfBounds,UnsupportedOperation,IllegalState
            setOnRoad(int,boolean) boolean IndexOutOfBounds,UnsupportedOperation
            isOnRoad(int,int) boolean IndexOutOfBounds,IllegalArgument
            scrap(int) int IndexOutOfBounds,IllegalState
            kindOf(int) char IndexOutOfBounds
            vehicles() int
            sell(int,int,int,int) int IndexOutOfBounds,IllegalArgument,UnsupportedOperation,IllegalState
            buy(int,int,int) int IndexOutOfBounds,IllegalArgument,IllegalState
            withdraw(int) int NoSuchElement,IllegalState
            stateOf(int) char NoSuchElement
            partnerOf(int) int NoSuchElement,IllegalState
            openNotices(int) int IndexOutOfBounds
            keeperOn(int,int) int IndexOutOfBounds,IllegalArgument,NoSuchElement
            keeperByGoing(int,int) int IndexOutOfBounds,IllegalArgument,NoSuchElement
            transfers(int) int IndexOutOfBounds
            transferDay(int,int) int IndexOutOfBounds
            keptBy(int) int IndexOutOfBounds
            addLien(int,char,int) int IndexOutOfBounds,IllegalArgument,IllegalState
            payLien(int,char,int) int IndexOutOfBounds,NoSuchElement,IllegalArgument
            lienOf(int,char) int IndexOutOfBounds,NoSuchElement
            isBlocked(int) boolean IndexOutOfBounds
            keepPlate(int) int IndexOutOfBounds,NoSuchElement,IllegalState
            putOn(int,int) int NoSuchElement,IndexOutOfBounds,UnsupportedOperation,IllegalState
            swapPlates(int,int) int IndexOutOfBounds,UnsupportedOperation,IllegalState
            plateState(int) char NoSuchElement
            daysKept(int) int NoSuchElement,IllegalState
            plates() int
            plateOn(int,int) int IndexOutOfBounds,IllegalArgument,NoSuchElement
            vehicleWith(int,int) int NoSuchElement,IllegalArgument,IllegalState
            vehicleByVehicles(int,int) int NoSuchElement,IllegalArgument,IllegalState
            due(int,int) int IndexOutOfBounds,IllegalArgument
            owes(int) int IndexOutOfBounds
            owesByDays(int) int IndexOutOfBounds
            pay(int,int) int IndexOutOfBounds,IllegalArgument
            mostOwing() int NoSuchElement
            collected() long
            roadShare() float Arithmetic
            meanTransfers() double Arithmetic
            isSound() boolean
            """;

    private FaceTest() {
    }

    public static void main(String[] args) {
        Class<?> face = PlateRegister.class;
        Check.holds("public", Modifier.isPublic(face.getModifiers()));
        Check.holds("final", Modifier.isFinal(face.getModifiers()));
        publicMethods(face);
        membersBesideThem(face);
        Check.end();
    }

    private static void publicMethods(Class<?> face) {
        Set<String> due = new TreeSet<>();
        FACE.lines().forEach(line -> due.add(line.strip()));
        Set<String> got = new TreeSet<>();
        for (Method method : face.getDeclaredMethods()) {
            if (Modifier.isPublic(method.getModifiers())) {
                got.add(lineOf(method));
                Check.holds("not static: " + method, !Modifier.isStatic(method.getModifiers()));
            }
        }
        due.forEach(line -> Check.holds("is there: " + line, got.contains(line)));
        got.forEach(line -> Check.holds("is in the document: " + line, due.contains(line)));
    }

    private static String lineOf(Method method) {
        String parameters = Arrays.stream(method.getParameterTypes()).map(Class::getName)
                .collect(Collectors.joining(","));
        String exceptions = Arrays.stream(method.getExceptionTypes())
                .map(e -> e.getSimpleName().replace("Exception", "")).collect(Collectors.joining(","));
        return (method.getName() + "(" + parameters + ") " + method.getReturnType().getName() + " " + exceptions)
                .strip();
    }

    private static void membersBesideThem(Class<?> face) {
        Set<String> names = new TreeSet<>();
        for (Method method : face.getDeclaredMethods()) {
            boolean isPublic = Modifier.isPublic(method.getModifiers());
            Check.holds("public or private: " + method, isPublic || Modifier.isPrivate(method.getModifiers()));
            if (isPublic) {
                names.add(method.getName());
            }
        }
        for (Method method : face.getDeclaredMethods()) {
            Check.holds("a name of its own: " + method,
                    Modifier.isPublic(method.getModifiers()) || !names.contains(method.getName()));
        }
        for (Field field : face.getDeclaredFields()) {
            Check.holds("private: " + field, Modifier.isPrivate(field.getModifiers()));
            Check.holds("no static state: " + field,
                    !Modifier.isStatic(field.getModifiers()) || Modifier.isFinal(field.getModifiers()));
        }
        Constructor<?>[] constructors = face.getDeclaredConstructors();
        Check.same("one constructor", constructors.length, 1);
        Check.holds("public", Modifier.isPublic(constructors[0].getModifiers()));
        Check.same("without parameters", constructors[0].getParameterCount(), 0);
        for (Class<?> inside : face.getDeclaredClasses()) {
            Check.holds("private and static: " + inside,
                    Modifier.isPrivate(inside.getModifiers()) && Modifier.isStatic(inside.getModifiers()));
        }
    }
}
