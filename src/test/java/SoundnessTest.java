import java.lang.reflect.Field;

/**
 * Promise 45: what isSound finds. No run of calls makes a register unsound, so the state inside is
 * broken here by hand.
 */
public final class SoundnessTest {
    private SoundnessTest() {
    }

    public static void main(String[] args) throws ReflectiveOperationException {
        plateOnTwoVehicles();
        plateOnTwoVehiclesAlone();
        placeOfPlateIsWrong();
        transfersOutOfOrder();
        taxOfOneKeeperAlone();
        Check.end();
    }

    private static void plateOnTwoVehicles() throws ReflectiveOperationException {
        PlateRegister x = Check.withKeepers(1);
        x.register(0, 'c');
        x.register(0, 'c');
        Check.holds("45: sound", x.isSound());
        numbers(x, "fleet", 1, "plates", "values")[0] = 0;
        Check.holds("45: a plate on two vehicles", !x.isSound());
    }

    /** The other plate is on none by both ways, so that nothing but the count of vehicles is wrong. */
    private static void plateOnTwoVehiclesAlone() throws ReflectiveOperationException {
        PlateRegister x = Check.withKeepers(1);
        x.register(0, 'c');
        x.register(0, 'c');
        numbers(x, "fleet", 1, "plates", "values")[0] = 0;
        numbers(x, "issued", 1, "places", "values")[0] = -1;
        Check.holds("45: a plate on two vehicles, all else right", !x.isSound());
    }

    private static void placeOfPlateIsWrong() throws ReflectiveOperationException {
        PlateRegister x = Check.withKeepers(1);
        x.register(0, 'c');
        x.register(0, 'c');
        numbers(x, "issued", 1, "places", "values")[0] = 0;
        Check.holds("45: the ways to the vehicle differ", !x.isSound());
    }

    private static void transfersOutOfOrder() throws ReflectiveOperationException {
        PlateRegister x = Check.withKeepers(2);
        x.bringIn(0, 'c');
        for (int i = 0; i < 3; i++) {
            x.sell(i % 2, 0, 1 - i % 2, 0);
            x.buy(1 - i % 2, 0, 0);
        }
        x.pass(30);
        x.admit(0);
        x.pass(50);
        Check.holds("45: still sound", x.isSound());
        numbers(x, "fleet", 0, "keepers", "days")[1] = 70;
        Check.holds("45: the ways to the tax differ", !x.isSound());
    }

    /** By halving, the tax is the first keeper's; by going, it is nobody's. */
    private static void taxOfOneKeeperAlone() throws ReflectiveOperationException {
        PlateRegister x = Check.withKeepers(2);
        x.register(0, 'c');
        for (int i = 0; i < 2; i++) {
            x.sell(i, 0, 1 - i, 0);
            x.buy(1 - i, 0, 0);
        }
        x.pass(80);
        Check.holds("45: sound so far", x.isSound());
        numbers(x, "fleet", 0, "keepers", "days")[0] = 70;
        Check.holds("45: the tax of the first keeper alone", !x.isSound());
    }

    private static int[] numbers(PlateRegister register, String row, int index, String line, String part)
            throws ReflectiveOperationException {
        Object[] objects = (Object[]) open(register, row);
        return (int[]) open(open(objects[index], line), part);
    }

    private static Object open(Object owner, String name) throws ReflectiveOperationException {
        Field field = owner.getClass().getDeclaredField(name);
        field.setAccessible(true);
        return field.get(owner);
    }
}
