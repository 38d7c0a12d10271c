/** Promises 24 to 36. */
public final class LiensAndPlatesTest {
    private LiensAndPlatesTest() {
    }

    public static void main(String[] args) {
        addLien();
        payLien();
        isBlocked();
        keepPlate();
        putOn();
        putOnExceptions();
        swapPlates();
        keptTime();
        plateHistory();
        movesOnOneDay();
        Check.end();
    }

    private static void addLien() {
        PlateRegister x = Check.withKeepers(1);
        x.register(0, 'c');
        Check.same("24: new", x.addLien(0, 'a', 9999), 9999);
        Check.same("24: greater", x.addLien(0, 'a', 1), 10000);
        Check.same("24: another", x.addLien(0, 'f', 1), 1);
        Check.same("26: first", x.lienOf(0, 'a'), 10000);
        Check.same("26: other", x.lienOf(0, 'f'), 1);
        Check.fails("26: none", Check.NO_ELEMENT, () -> x.lienOf(0, 'b'));
        for (char lender : new char[] {'g', (char) 96, 'A', (char) 0, (char) 0xFFFF}) {
            Check.fails("24: lender", Check.ARGUMENT, () -> x.addLien(0, lender, 5));
            Check.fails("25: lender", Check.NO_ELEMENT, () -> x.payLien(0, lender, 0));
            Check.fails("26: lender", Check.NO_ELEMENT, () -> x.lienOf(0, lender));
        }
        for (int amount : new int[] {0, -1, 10000, Integer.MIN_VALUE, Integer.MAX_VALUE}) {
            Check.fails("24: amount", Check.ARGUMENT, () -> x.addLien(0, 'a', amount));
            Check.fails("24: vehicle first", Check.INDEX, () -> x.addLien(1, 'g', amount));
        }
        Check.same("26: the same as before", x.lienOf(0, 'a'), 10000);
        x.register(0, 'c');
        x.scrap(1);
        Check.fails("24: scrapped", Check.STATE, () -> x.addLien(1, 'a', 5));
        Check.fails("24: amount before scrapped", Check.ARGUMENT, () -> x.addLien(1, 'a', 0));
    }

    private static void payLien() {
        PlateRegister x = Check.withKeepers(1);
        x.bringIn(0, 'c');
        x.addLien(0, 'c', 10);
        x.addLien(0, 'd', 20);
        for (int amount : new int[] {0, -5, 11, 20, Integer.MIN_VALUE, Integer.MAX_VALUE}) {
            Check.fails("25: amount", Check.ARGUMENT, () -> x.payLien(0, 'c', amount));
        }
        Check.fails("25: no lien before amount", Check.NO_ELEMENT, () -> x.payLien(0, 'a', 0));
        Check.fails("25: vehicle", Check.INDEX, () -> x.payLien(1, 'c', 1));
        Check.fails("26: vehicle", Check.INDEX, () -> x.lienOf(-1, 'c'));
        Check.same("25: a part", x.payLien(0, 'c', 9), 1);
        Check.same("25: the rest", x.payLien(0, 'c', 1), 0);
        Check.fails("25: ended", Check.NO_ELEMENT, () -> x.payLien(0, 'c', 1));
        Check.fails("26: ended", Check.NO_ELEMENT, () -> x.lienOf(0, 'c'));
        Check.same("26: the other", x.lienOf(0, 'd'), 20);
        Check.same("24: anew", x.addLien(0, 'c', 3), 3);
    }

    private static void isBlocked() {
        PlateRegister x = Check.withKeepers(1);
        x.register(0, 'c');
        x.register(0, 'c');
        Check.holds("27: free", !x.isBlocked(0));
        x.addLien(0, 'f', 2);
        x.addLien(0, 'a', 2);
        Check.holds("27: lien", x.isBlocked(0));
        Check.holds("27: not the other", !x.isBlocked(1));
        x.payLien(0, 'a', 2);
        Check.holds("27: one lien left", x.isBlocked(0));
        x.payLien(0, 'f', 2);
        Check.holds("27: free again", !x.isBlocked(0));
        x.scrap(0);
        Check.holds("27: scrapped", x.isBlocked(0));
        x.pass(99);
        Check.holds("27: for ever", x.isBlocked(0));
        Check.fails("27: vehicle", Check.INDEX, () -> x.isBlocked(2) ? 1 : 0);
    }

    private static void keepPlate() {
        PlateRegister x = Check.withKeepers(1);
        x.register(0, 'c');
        x.bringIn(0, 'c');
        x.setOnRoad(0, false);
        Check.same("28: new", x.keepPlate(0), 1);
        Check.same("28: old is kept", x.plateState(0), 'k');
        Check.same("28: new is on it", x.plateOn(0, 0), 1);
        Check.holds("28: still off the road", !x.isOnRoad(0, 0));
        Check.fails("28: no plate", Check.NO_ELEMENT, () -> x.keepPlate(1));
        x.addLien(1, 'a', 1);
        Check.fails("28: no plate before blocked", Check.NO_ELEMENT, () -> x.keepPlate(1));
        x.addLien(0, 'a', 1);
        Check.fails("28: blocked", Check.STATE, () -> x.keepPlate(0));
        x.payLien(0, 'a', 1);
        x.scrap(0);
        Check.fails("28: scrapped, so without plate", Check.NO_ELEMENT, () -> x.keepPlate(0));
        Check.fails("28: vehicle", Check.INDEX, () -> x.keepPlate(2));
        Check.same("33: two plates", x.plates(), 2);
    }

    private static void putOn() {
        PlateRegister x = Check.withKeepers(2);
        x.register(0, 'c');
        x.register(0, 'c');
        x.keepPlate(0);
        x.pass(3);
        Check.same("29: had", x.putOn(0, 1), 1);
        Check.same("29: has", x.plateOn(1, 3), 0);
        Check.same("29: replaced", x.plateState(1), 'x');
        Check.fails("29: replaced today", Check.STATE, () -> x.vehicleWith(1, 3));
        Check.same("29: on it until yesterday", x.vehicleWith(1, 2), 1);
        Check.same("29: on a vehicle", x.plateState(0), 'v');
        Check.fails("29: not kept any more", Check.UNSUPPORTED, () -> x.putOn(0, 0));
        Check.fails("29: void", Check.UNSUPPORTED, () -> x.putOn(1, 0));
        Check.same("28: kept again", x.keepPlate(1), 3);
        Check.same("32: from today on", x.daysKept(0), 361);
        x.sell(0, 0, 1, 3);
        x.buy(1, 0, 3);
        Check.fails("29: of the seller", Check.UNSUPPORTED, () -> x.putOn(0, 0));
        Check.same("29: on the other", x.putOn(0, 1), 3);
    }

    private static void putOnExceptions() {
        PlateRegister x = Check.withKeepers(2);
        x.register(0, 'c');
        x.bringIn(0, 'c');
        x.register(1, 'c');
        x.keepPlate(0);
        Check.fails("29: plate first", Check.NO_ELEMENT, () -> x.putOn(3, 9));
        Check.fails("29: plate -1", Check.NO_ELEMENT, () -> x.putOn(-1, 0));
        Check.fails("29: vehicle", Check.INDEX, () -> x.putOn(2, 3));
        Check.fails("29: vehicle before kept", Check.INDEX, () -> x.putOn(2, -1));
        Check.fails("29: not kept", Check.UNSUPPORTED, () -> x.putOn(2, 0));
        Check.fails("29: another keeper", Check.UNSUPPORTED, () -> x.putOn(0, 2));
        Check.fails("29: no plate on it", Check.STATE, () -> x.putOn(0, 1));
        x.addLien(0, 'e', 1);
        Check.fails("29: blocked", Check.STATE, () -> x.putOn(0, 0));
        x.addLien(2, 'e', 1);
        Check.fails("29: keeper before blocked", Check.UNSUPPORTED, () -> x.putOn(0, 2));
        x.payLien(0, 'e', 1);
        x.scrap(0);
        Check.fails("29: scrapped", Check.STATE, () -> x.putOn(0, 0));
        Check.same("29: still kept", x.plateState(0), 'k');
    }

    private static void swapPlates() {
        PlateRegister x = Check.withKeepers(2);
        x.register(0, 'c');
        x.register(0, 'm');
        x.register(1, 'c');
        x.bringIn(0, 'c');
        x.pass(2);
        Check.same("30: has", x.swapPlates(0, 1), 1);
        Check.same("30: first", x.plateOn(0, 2), 1);
        Check.same("30: second", x.plateOn(1, 2), 0);
        Check.same("30: before", x.plateOn(0, 1), 0);
        Check.same("30: place", x.vehicleWith(0, 2), 1);
        Check.same("30: place before", x.vehicleWith(0, 1), 0);
        Check.fails("30: first vehicle", Check.INDEX, () -> x.swapPlates(4, 0));
        Check.fails("30: second vehicle", Check.INDEX, () -> x.swapPlates(0, -1));
        Check.fails("30: no such, both", Check.INDEX, () -> x.swapPlates(4, 4));
        Check.fails("30: same", Check.UNSUPPORTED, () -> x.swapPlates(1, 1));
        Check.fails("30: same without plate", Check.UNSUPPORTED, () -> x.swapPlates(3, 3));
        Check.fails("30: keepers", Check.UNSUPPORTED, () -> x.swapPlates(0, 2));
        Check.fails("30: no plate", Check.STATE, () -> x.swapPlates(0, 3));
        Check.fails("30: no plate on the first", Check.STATE, () -> x.swapPlates(3, 0));
        x.addLien(1, 'a', 1);
        Check.fails("30: second blocked", Check.STATE, () -> x.swapPlates(0, 1));
        Check.fails("30: first blocked", Check.STATE, () -> x.swapPlates(1, 0));
        x.payLien(1, 'a', 1);
        x.scrap(1);
        Check.fails("30: scrapped", Check.STATE, () -> x.swapPlates(0, 1));
        Check.same("30: nothing has changed", x.plateOn(0, 2), 1);
        Check.same("31: void", x.plateState(0), 'x');
    }

    private static void keptTime() {
        PlateRegister x = Check.withKeepers(1);
        x.pass(7);
        x.register(0, 'c');
        x.keepPlate(0);
        for (int day : new int[] {7, 8, 100, 366, 367}) {
            Check.passTo(x, day);
            Check.same("32: day " + day, x.daysKept(0), 368 - day);
            Check.same("31: day " + day, x.plateState(0), 'k');
        }
        Check.passTo(x, 368);
        Check.same("31: void", x.plateState(0), 'x');
        Check.fails("32: void", Check.STATE, () -> x.daysKept(0));
        Check.fails("29: void", Check.UNSUPPORTED, () -> x.putOn(0, 0));
        Check.fails("32: on a vehicle", Check.STATE, () -> x.daysKept(1));
        Check.passTo(x, 3000);
        Check.same("31: void for ever", x.plateState(0), 'x');
        for (int plate : new int[] {-1, 2, 40, Integer.MIN_VALUE, Integer.MAX_VALUE}) {
            Check.fails("31: " + plate, Check.NO_ELEMENT, () -> x.plateState(plate));
            Check.fails("32: " + plate, Check.NO_ELEMENT, () -> x.daysKept(plate));
        }
    }

    private static void plateHistory() {
        PlateRegister x = Check.withKeepers(1);
        x.register(0, 'c');
        x.register(0, 'c');
        x.pass(10);
        x.keepPlate(0);
        x.pass(10);
        x.putOn(0, 1);
        x.pass(10);
        x.swapPlates(0, 1);
        x.pass(10);
        for (int day = 0; day <= 40; day++) {
            int asked = day;
            Check.same("34: first, day " + day, x.plateOn(0, day), day < 10 ? 0 : day < 30 ? 2 : 0);
            Check.same("34: second, day " + day, x.plateOn(1, day), day < 20 ? 1 : day < 30 ? 0 : 2);
            if (day >= 10 && day < 20) {
                Check.fails("35: kept", Check.STATE, () -> x.vehicleWith(0, asked));
                Check.fails("36: kept", Check.STATE, () -> x.vehicleByVehicles(0, asked));
            } else {
                int due = day < 10 || day >= 30 ? 0 : 1;
                Check.same("35: day " + day, x.vehicleWith(0, day), due);
                Check.same("36: day " + day, x.vehicleByVehicles(0, day), due);
            }
        }
        Check.fails("35: not issued yet", Check.STATE, () -> x.vehicleWith(2, 9));
        Check.fails("36: not issued yet", Check.STATE, () -> x.vehicleByVehicles(2, 9));
        for (int day : new int[] {-1, 41, Integer.MIN_VALUE, Integer.MAX_VALUE}) {
            Check.fails("34: day", Check.ARGUMENT, () -> x.plateOn(0, day));
            Check.fails("35: day", Check.ARGUMENT, () -> x.vehicleWith(1, day));
            Check.fails("36: day", Check.ARGUMENT, () -> x.vehicleByVehicles(1, day));
            Check.fails("34: vehicle first", Check.INDEX, () -> x.plateOn(2, day));
            Check.fails("35: plate first", Check.NO_ELEMENT, () -> x.vehicleWith(3, day));
            Check.fails("36: plate first", Check.NO_ELEMENT, () -> x.vehicleByVehicles(-1, day));
        }
        x.register(0, 'c');
        Check.fails("34: before it came", Check.NO_ELEMENT, () -> x.plateOn(2, 39));
    }

    private static void movesOnOneDay() {
        PlateRegister x = Check.withKeepers(1);
        x.register(0, 'c');
        x.register(0, 'c');
        x.pass(1);
        x.swapPlates(0, 1);
        x.keepPlate(0);
        x.putOn(1, 1);
        x.swapPlates(1, 0);
        x.pass(1);
        Check.same("34: end of the day", x.plateOn(0, 1), 1);
        Check.same("34: the other", x.plateOn(1, 1), 2);
        Check.same("35: place", x.vehicleWith(1, 1), 0);
        Check.same("35: place before", x.vehicleWith(1, 0), 1);
        Check.same("36: new one", x.vehicleByVehicles(2, 1), 1);
        Check.fails("35: replaced", Check.STATE, () -> x.vehicleWith(0, 1));
        Check.holds("45: sound", x.isSound());
        Check.same("33: three", x.plates(), 3);
    }
}
