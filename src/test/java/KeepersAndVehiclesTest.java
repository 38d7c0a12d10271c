/** Promises 1 to 12. */
public final class KeepersAndVehiclesTest {
    private KeepersAndVehiclesTest() {
    }

    public static void main(String[] args) {
        newObject();
        addKeeper();
        pass();
        register();
        bringIn();
        admit();
        setOnRoad();
        isOnRoad();
        scrap();
        kindOfAndVehicles();
        Check.end();
    }

    private static void newObject() {
        PlateRegister x = new PlateRegister();
        Check.same("1: day", x.day(), 0);
        Check.same("1: vehicles", x.vehicles(), 0);
        Check.same("1: plates", x.plates(), 0);
        Check.same("1: collected", x.collected(), 0);
        Check.holds("1: isSound", x.isSound());
        Check.fails("1: no keeper", Check.INDEX, () -> x.keptBy(0));
        Check.fails("1: no vehicle", Check.INDEX, () -> x.kindOf(0));
        Check.fails("1: no plate", Check.NO_ELEMENT, () -> x.plateState(0));
        Check.fails("1: no notice", Check.NO_ELEMENT, () -> x.stateOf(0));
        PlateRegister other = new PlateRegister();
        x.addKeeper();
        Check.same("1: objects are apart", other.addKeeper(), 0);
    }

    private static void addKeeper() {
        PlateRegister x = new PlateRegister();
        for (int i = 0; i < 12; i++) {
            Check.same("2: keeper", x.addKeeper(), i);
        }
        Check.fails("2: a 13th", Check.STATE, x::addKeeper);
        Check.fails("2: a 13th again", Check.STATE, x::addKeeper);
        Check.same("2: the 12th", x.keptBy(11), 0);
        Check.fails("2: no 13th", Check.INDEX, () -> x.keptBy(12));
    }

    private static void pass() {
        PlateRegister x = new PlateRegister();
        Check.same("3: one day", x.pass(1), 1);
        Check.same("3: 99 days", x.pass(99), 100);
        for (int days : new int[] {0, -1, 100, Integer.MAX_VALUE, Integer.MIN_VALUE}) {
            Check.fails("3: " + days + " days", Check.ARGUMENT, () -> x.pass(days));
        }
        Check.same("4: nothing has passed", x.day(), 100);
        Check.passTo(x, 2990);
        Check.fails("3: to day 3001", Check.ARGUMENT, () -> x.pass(11));
        Check.same("3: to day 3000", x.pass(10), 3000);
        Check.fails("3: behind day 3000", Check.ARGUMENT, () -> x.pass(1));
        Check.same("4: the last day", x.day(), 3000);
    }

    private static void register() {
        PlateRegister x = Check.withKeepers(2);
        x.pass(5);
        Check.same("5: first", x.register(1, 'c'), 0);
        Check.same("5: second", x.register(0, 'm'), 1);
        Check.holds("5: on the road", x.isOnRoad(0, 5));
        Check.same("5: plate", x.plateOn(1, 5), 1);
        Check.same("5: keeper", x.keeperOn(0, 5), 1);
        Check.same("5: one transfer", x.transfers(0), 1);
        Check.same("5: of today", x.transferDay(0, 0), 5);
        Check.fails("5: keeper 2", Check.INDEX, () -> x.register(2, 'c'));
        Check.fails("5: keeper -1", Check.INDEX, () -> x.register(-1, 'x'));
        for (char kind : new char[] {'x', 'C', (char) 0, (char) 0xFFFF, 'b', 'd', 'g', 'i', 'k', 'n'}) {
            Check.fails("5: kind " + (int) kind, Check.ARGUMENT, () -> x.register(0, kind));
        }
        for (int i = 2; i < 15; i++) {
            Check.same("5: more", x.register(0, i % 2 == 0 ? 'l' : 'h'), i);
        }
        Check.fails("5: a 16th", Check.STATE, () -> x.register(0, 'c'));
        Check.fails("5: kind before room", Check.ARGUMENT, () -> x.register(0, 'x'));
        Check.fails("5: keeper before room", Check.INDEX, () -> x.register(12, 'c'));
        Check.same("5: still 15", x.vehicles(), 15);
        Check.fails("11: vehicle 15 of 15", Check.INDEX, () -> x.kindOf(15));
        Check.same("5: still 15 plates", x.plates(), 15);
        registerWithoutPlates();
    }

    private static void registerWithoutPlates() {
        PlateRegister x = Check.withKeepers(1);
        x.register(0, 'c');
        for (int i = 1; i < 40; i++) {
            Check.same("28: new plate", x.keepPlate(0), i);
        }
        Check.fails("5: a 41st plate", Check.STATE, () -> x.register(0, 'c'));
        Check.fails("5: kind before plates", Check.ARGUMENT, () -> x.register(0, 'x'));
        Check.same("6: needs no plate", x.bringIn(0, 'c'), 1);
        Check.fails("7: a 41st plate", Check.STATE, () -> x.admit(1));
        Check.fails("28: a 41st plate", Check.STATE, () -> x.keepPlate(0));
        Check.same("33: all are issued", x.plates(), 40);
        Check.same("12: two", x.vehicles(), 2);
        Check.same("28: nothing has changed", x.plateOn(0, 0), 39);
    }

    private static void bringIn() {
        PlateRegister x = Check.withKeepers(2);
        x.pass(3);
        Check.same("6: first", x.bringIn(1, 'h'), 0);
        Check.same("6: no plate", x.plates(), 0);
        Check.holds("6: off the road", !x.isOnRoad(0, 3));
        Check.fails("6: none on it", Check.NO_ELEMENT, () -> x.plateOn(0, 3));
        Check.same("6: keeper", x.keeperOn(0, 3), 1);
        Check.same("6: today", x.transferDay(0, 0), 3);
        Check.fails("6: keeper 2", Check.INDEX, () -> x.bringIn(2, 'x'));
        Check.fails("6: kind", Check.ARGUMENT, () -> x.bringIn(0, 'y'));
        for (int i = 1; i < 15; i++) {
            Check.same("6: more", x.bringIn(0, 'c'), i);
        }
        Check.fails("6: a 16th", Check.STATE, () -> x.bringIn(0, 'c'));
        Check.fails("6: kind before room", Check.ARGUMENT, () -> x.bringIn(0, 'd'));
        Check.fails("6: keeper before room", Check.INDEX, () -> x.bringIn(-1, 'c'));
    }

    private static void admit() {
        PlateRegister x = Check.withKeepers(1);
        x.register(0, 'c');
        x.bringIn(0, 'c');
        x.bringIn(0, 'c');
        x.addLien(1, 'a', 1);
        x.pass(4);
        Check.same("7: blocked ones too", x.admit(1), 1);
        Check.holds("7: on the road", x.isOnRoad(1, 4));
        Check.holds("7: not earlier", !x.isOnRoad(1, 3));
        Check.same("7: its plate", x.plateOn(1, 4), 1);
        Check.same("7: on a vehicle", x.plateState(1), 'v');
        Check.same("7: on this one", x.vehicleWith(1, 4), 1);
        Check.fails("7: twice", Check.UNSUPPORTED, () -> x.admit(1));
        Check.fails("7: registered here", Check.UNSUPPORTED, () -> x.admit(0));
        x.scrap(2);
        Check.fails("7: scrapped", Check.STATE, () -> x.admit(2));
        x.scrap(0);
        Check.fails("7: registered before scrapped", Check.UNSUPPORTED, () -> x.admit(0));
        Check.fails("7: no vehicle", Check.INDEX, () -> x.admit(3));
        Check.fails("7: vehicle -1", Check.INDEX, () -> x.admit(-1));
        Check.same("7: two plates", x.plates(), 2);
    }

    private static void setOnRoad() {
        PlateRegister x = Check.withKeepers(1);
        x.register(0, 'c');
        x.bringIn(0, 'c');
        Check.holds("8: it was", x.setOnRoad(0, false));
        Check.holds("8: it was not", !x.setOnRoad(0, false));
        Check.holds("8: it was not yet", !x.setOnRoad(0, true));
        Check.holds("8: it was again", x.setOnRoad(0, true));
        x.addLien(0, 'b', 5);
        Check.holds("8: a blocked one too", x.setOnRoad(0, false));
        x.payLien(0, 'b', 5);
        Check.fails("8: without plate", Check.UNSUPPORTED, () -> x.setOnRoad(1, false) ? 1 : 0);
        x.scrap(0);
        Check.fails("8: scrapped", Check.UNSUPPORTED, () -> x.setOnRoad(0, true) ? 1 : 0);
        Check.fails("8: no vehicle", Check.INDEX, () -> x.setOnRoad(2, true) ? 1 : 0);
    }

    private static void isOnRoad() {
        PlateRegister x = Check.withKeepers(1);
        x.pass(10);
        x.register(0, 'c');
        x.pass(10);
        x.setOnRoad(0, false);
        x.pass(10);
        x.setOnRoad(0, true);
        x.setOnRoad(0, false);
        x.setOnRoad(0, true);
        x.pass(10);
        boolean[] due = new boolean[41];
        for (int day = 0; day <= 40; day++) {
            due[day] = day >= 10 && day < 20 || day >= 30;
            Check.same("9: day " + day, x.isOnRoad(0, day) ? 1 : 0, due[day] ? 1 : 0);
        }
        Check.fails("9: day 41", Check.ARGUMENT, () -> x.isOnRoad(0, 41) ? 1 : 0);
        Check.fails("9: day -1", Check.ARGUMENT, () -> x.isOnRoad(0, -1) ? 1 : 0);
        Check.fails("9: vehicle before day", Check.INDEX, () -> x.isOnRoad(1, 41) ? 1 : 0);
        x.scrap(0);
        Check.holds("9: scrapped", !x.isOnRoad(0, 40));
        Check.holds("9: before that", x.isOnRoad(0, 39));
    }

    private static void scrap() {
        PlateRegister x = Check.withKeepers(1);
        x.register(0, 'c');
        x.bringIn(0, 'm');
        x.register(0, 'l');
        x.pass(1);
        x.addLien(2, 'f', 7);
        Check.fails("10: blocked", Check.STATE, () -> x.scrap(2));
        Check.same("10: two left", x.scrap(0), 2);
        Check.same("10: its plate", x.plateState(0), 'x');
        Check.fails("10: no plate on it", Check.NO_ELEMENT, () -> x.plateOn(0, 1));
        Check.same("10: a day ago", x.plateOn(0, 0), 0);
        Check.fails("10: plate on none", Check.STATE, () -> x.vehicleWith(0, 1));
        Check.same("10: plate a day ago", x.vehicleWith(0, 0), 0);
        Check.holds("10: blocked for ever", x.isBlocked(0));
        Check.fails("10: twice", Check.STATE, () -> x.scrap(0));
        Check.same("10: without plate", x.scrap(1), 1);
        x.payLien(2, 'f', 7);
        Check.same("10: the last", x.scrap(2), 0);
        Check.fails("10: no vehicle", Check.INDEX, () -> x.scrap(3));
        Check.same("10: keeper remains", x.keeperOn(0, 1), 0);
    }

    private static void kindOfAndVehicles() {
        PlateRegister x = Check.withKeepers(1);
        char[] kinds = {'c', 'm', 'l', 'h'};
        for (int i = 0; i < 8; i++) {
            int made = i < 4 ? x.register(0, kinds[i]) : x.bringIn(0, kinds[i - 4]);
            Check.same("11: kind", x.kindOf(made), kinds[i % 4]);
            Check.same("12: vehicles", x.vehicles(), i + 1);
        }
        x.scrap(0);
        Check.same("12: scrapped ones too", x.vehicles(), 8);
        Check.same("11: scrapped ones too", x.kindOf(0), 'c');
        Check.fails("11: vehicle 8", Check.INDEX, () -> x.kindOf(8));
        Check.fails("11: vehicle -1", Check.INDEX, () -> x.kindOf(-1));
        Check.fails("11: far off", Check.INDEX, () -> x.kindOf(Integer.MAX_VALUE));
    }
}
