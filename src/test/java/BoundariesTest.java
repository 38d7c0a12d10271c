/**
 * Each sentence of the document that names a boundary, on both of its sides; what is refused has
 * its rows in {@link RefusedCallsTest} too. The number before each text is that of the promise.
 */
public final class BoundariesTest {
    private BoundariesTest() {
    }

    public static void main(String[] args) {
        twelveKeepers();
        oneToNinetyNineDays();
        dayThreeThousand();
        fifteenVehicles();
        fortyPlates();
        hundredAndTwentyNotices();
        endOfDayAndNow();
        beforeItCame();
        scrappedForEver();
        daysOfNotices();
        lienAmounts();
        lendersAToF();
        blockedWhileItHasALien();
        plateKept361Days();
        plateKeptAgain();
        plateKeptUntilTheLastDay();
        plateVoidForEver();
        placesOfAPlate();
        quarterHas90Days();
        oneRoadDay();
        lastQuarter();
        payments();
        mostOwing();
        shares();
        counts();
        Check.end();
    }

    private static void twelveKeepers() {
        PlateRegister x = new PlateRegister();
        for (int i = 0; i < 12; i++) {
            Check.same("2: keeper", x.addKeeper(), i);
        }
        Check.fails("2: a 13th", Check.STATE, x::addKeeper);
        Check.same("5: the 12th registers", x.register(11, 'c'), 0);
        Check.same("23: the 12th keeps", x.keptBy(11), 1);
        Check.same("38: the 12th owes", x.owes(11), 60);
        Check.same("39: the 12th owes", x.owesByDays(11), 60);
        Check.same("41: the 12th owes most", x.mostOwing(), 11);
        Check.same("13: the 12th sells", x.sell(11, 0, 0, 0), 0);
        x.buy(0, 0, 0);
        x.sell(0, 0, 11, 0);
        Check.same("14: the 12th buys", x.buy(11, 0, 0), 3);
        Check.same("19: the 12th", x.keeperOn(0, 0), 11);
        Check.same("40: the 12th pays", x.pay(11, 1), 59);
    }

    private static void oneToNinetyNineDays() {
        PlateRegister x = new PlateRegister();
        Check.same("4: at first", x.day(), 0);
        int day = 0;
        for (int days = 1; days <= 75; days++) {
            day += days;
            Check.same("3: " + days, x.pass(days), day);
            Check.same("4: " + day, x.day(), day);
        }
        PlateRegister y = new PlateRegister();
        day = 0;
        for (int days = 76; days <= 99; days++) {
            day += days;
            Check.same("3: " + days, y.pass(days), day);
        }
        Check.fails("3: 100", Check.ARGUMENT, () -> y.pass(100));
        Check.fails("3: 0", Check.ARGUMENT, () -> y.pass(0));
    }

    private static void dayThreeThousand() {
        for (int days : new int[] {1, 2, 50, 98, 99}) {
            PlateRegister x = States.onDay(3000 - days);
            if (days < 99) {
                Check.fails("3: to 3001", Check.ARGUMENT, () -> x.pass(days + 1));
            }
            Check.same("3: to 3000", x.pass(days), 3000);
            Check.fails("3: 1 day more", Check.ARGUMENT, () -> x.pass(1));
            Check.fails("3: 99 days more", Check.ARGUMENT, () -> x.pass(99));
            Check.same("4: the last day", x.day(), 3000);
            Check.holds("9: the last day", x.isOnRoad(0, 3000));
            Check.same("19: the last day", x.keeperOn(0, 3000), 0);
            Check.same("20: the last day", x.keeperByGoing(0, 3000), 0);
            Check.same("34: the last day", x.plateOn(0, 3000), 0);
            Check.same("14: the last day", x.buy(0, 0, 3000), 0);
            Check.fails("14: behind the last day", Check.ARGUMENT, () -> x.buy(0, 0, 3001));
        }
    }

    private static void fifteenVehicles() {
        PlateRegister x = Check.withKeepers(2);
        for (int i = 0; i < 14; i++) {
            Check.same("5: vehicle", i % 3 == 0 ? x.bringIn(0, 'm') : x.register(0, 'm'), i);
        }
        x.scrap(13);
        Check.same("5: the 15th", x.register(1, 'l'), 14);
        Check.fails("5: the scrapped one counts", Check.STATE, () -> x.register(0, 'c'));
        Check.fails("6: the scrapped one counts", Check.STATE, () -> x.bringIn(0, 'c'));
        Check.same("12: scrapped ones included", x.vehicles(), 15);
        Check.same("11: the 15th", x.kindOf(14), 'l');
        Check.same("37: the 15th", x.due(14, 0), 150);
        Check.same("24: the 15th", x.addLien(14, 'a', 1), 1);
        Check.same("25: the 15th", x.payLien(14, 'a', 1), 0);
        Check.same("28: the 15th", x.keepPlate(14), 10);
        Check.same("29: the 15th", x.putOn(9, 14), 10);
        Check.same("35: on the 15th", x.vehicleWith(9, 0), 14);
        Check.same("36: on the 15th", x.vehicleByVehicles(9, 0), 14);
        Check.same("10: the 15th", x.scrap(14), 13);
        PlateRegister y = Check.withKeepers(1);
        for (int i = 0; i < 15; i++) {
            Check.same("6: vehicle", y.bringIn(0, 'c'), i);
        }
        Check.same("7: the 15th", y.admit(14), 0);
        Check.holds("8: the 15th", y.setOnRoad(14, false));
    }

    private static PlateRegister with39Plates() {
        PlateRegister x = Check.withKeepers(1);
        x.register(0, 'c');
        x.bringIn(0, 'c');
        for (int i = 1; i < 39; i++) {
            Check.same("28: plate", x.keepPlate(0), i);
        }
        return x;
    }

    private static void fortyPlates() {
        PlateRegister byRegister = with39Plates();
        Check.same("5: with the 40th plate", byRegister.register(0, 'c'), 2);
        Check.same("34: the 40th", byRegister.plateOn(2, 0), 39);
        PlateRegister byAdmit = with39Plates();
        Check.same("7: the 40th plate", byAdmit.admit(1), 39);
        PlateRegister byKeep = with39Plates();
        Check.same("28: the 40th plate", byKeep.keepPlate(0), 39);
        for (PlateRegister x : new PlateRegister[] {byRegister, byAdmit, byKeep}) {
            Check.same("33: all", x.plates(), 40);
            Check.same("31: the 40th", x.plateState(39), 'v');
            Check.fails("5: a 41st", Check.STATE, () -> x.register(0, 'c'));
            Check.fails("28: a 41st", Check.STATE, () -> x.keepPlate(0));
            Check.same("6: without plate", x.bringIn(0, 'c'), x == byRegister ? 3 : 2);
            Check.fails("7: a 41st", Check.STATE, () -> x.admit(x == byRegister ? 3 : 2));
            x.putOn(0, 0);
            x.scrap(0);
            Check.fails("5: void ones count", Check.STATE, () -> x.register(0, 'c'));
            Check.same("33: void ones count", x.plates(), 40);
        }
    }

    private static void hundredAndTwentyNotices() {
        for (boolean isSellerLast : new boolean[] {false, true}) {
            PlateRegister x = Check.withKeepers(2);
            x.register(0, 'c');
            x.register(0, 'c');
            for (int i = 0; i < 119; i++) {
                int came = isSellerLast ? x.buy(1, 0, 0) : x.sell(0, 0, 1, 0);
                Check.same("13: notice", came, i);
            }
            Check.same("15: withdrawn", x.withdraw(0), 118);
            Check.same("13: the 120th", isSellerLast ? x.sell(0, 0, 1, 0) : x.buy(1, 0, 0), 119);
            Check.same("16: the 120th is used", x.stateOf(119), 'u');
            Check.same("17: with the lowest open one", x.partnerOf(119), 1);
            Check.same("17: and back", x.partnerOf(1), 119);
            Check.same("18: the others", x.openNotices(0), 117);
            Check.fails("13: used ones count", Check.STATE, () -> x.sell(1, 1, 0, 0));
            Check.fails("14: used ones count", Check.STATE, () -> x.buy(0, 1, 0));
            Check.fails("16: a 121st", Check.NO_ELEMENT, () -> x.stateOf(120));
            Check.same("15: the highest open one", x.withdraw(118), 116);
        }
    }

    private static void endOfDayAndNow() {
        PlateRegister x = Check.withKeepers(3);
        x.register(0, 'c');
        x.register(0, 'c');
        x.pass(1);
        for (int i = 0; i < 3; i++) {
            x.setOnRoad(0, false);
            Check.holds("9: now it is not", !x.isOnRoad(0, 1));
            x.setOnRoad(0, true);
            Check.holds("9: now it is", x.isOnRoad(0, 1));
            x.swapPlates(0, 1);
            Check.same("34: now", x.plateOn(0, 1), 1 - i % 2);
            Check.same("35: now", x.vehicleWith(0, 1), 1 - i % 2);
            Check.same("36: now", x.vehicleByVehicles(1, 1), i % 2);
        }
        x.setOnRoad(0, false);
        x.sell(0, 0, 1, 1);
        x.buy(1, 0, 1);
        Check.same("19: now", x.keeperOn(0, 1), 1);
        x.sell(1, 0, 2, 1);
        x.buy(2, 0, 1);
        Check.same("19: the last of the day", x.keeperOn(0, 1), 2);
        x.pass(1);
        x.setOnRoad(0, true);
        Check.holds("9: at the end of the day before", !x.isOnRoad(0, 1));
        Check.holds("9: now", x.isOnRoad(0, 2));
        Check.holds("9: at the end of the first day", x.isOnRoad(0, 0));
        Check.same("34: at the end of a day", x.plateOn(0, 1), 1);
        Check.same("34: at the end of the first day", x.plateOn(0, 0), 0);
        Check.same("35: at the end of the first day", x.vehicleWith(0, 0), 0);
        Check.same("36: at the end of the first day", x.vehicleByVehicles(0, 0), 0);
        Check.same("20: at the end of a day", x.keeperByGoing(0, 1), 2);
        Check.same("20: at the end of the first day", x.keeperByGoing(0, 0), 0);
    }

    private static void beforeItCame() {
        PlateRegister x = Check.withKeepers(2);
        x.pass(50);
        x.register(1, 'c');
        x.bringIn(1, 'c');
        x.pass(50);
        x.admit(1);
        Check.holds("9: the day before", !x.isOnRoad(0, 49));
        Check.holds("9: day 0", !x.isOnRoad(0, 0));
        Check.holds("9: the day on which it came", x.isOnRoad(0, 50));
        Check.fails("19: the day before", Check.NO_ELEMENT, () -> x.keeperOn(0, 49));
        Check.fails("20: the day before", Check.NO_ELEMENT, () -> x.keeperByGoing(0, 49));
        Check.fails("19: day 0", Check.NO_ELEMENT, () -> x.keeperOn(0, 0));
        Check.fails("20: day 0", Check.NO_ELEMENT, () -> x.keeperByGoing(0, 0));
        Check.same("19: the day on which it came", x.keeperOn(0, 50), 1);
        Check.same("20: the day on which it came", x.keeperByGoing(0, 50), 1);
        Check.fails("34: the day before", Check.NO_ELEMENT, () -> x.plateOn(0, 49));
        Check.same("34: the day on which it came", x.plateOn(0, 50), 0);
        Check.same("19: before it was admitted", x.keeperOn(1, 99), 1);
        Check.holds("9: the day before it was admitted", !x.isOnRoad(1, 99));
        Check.holds("9: the day on which it was admitted", x.isOnRoad(1, 100));
        Check.fails("34: the day before it was admitted", Check.NO_ELEMENT, () -> x.plateOn(1, 99));
        Check.same("34: the day on which it was admitted", x.plateOn(1, 100), 1);
        Check.fails("35: the day before it was issued", Check.STATE, () -> x.vehicleWith(1, 99));
        Check.fails("36: the day before it was issued", Check.STATE, () -> x.vehicleByVehicles(1, 99));
        Check.same("37: not for the quarter 0 of its bringing in", x.due(1, 0), 0);
    }

    private static void scrappedForEver() {
        PlateRegister x = Check.withKeepers(2);
        x.register(0, 'c');
        x.bringIn(0, 'c');
        x.pass(90);
        Check.same("10: one left", x.scrap(0), 1);
        Check.same("10: none left", x.scrap(1), 0);
        Check.passTo(x, 3000);
        for (int vehicle = 0; vehicle < 2; vehicle++) {
            int asked = vehicle;
            Check.holds("27: blocked for ever", x.isBlocked(vehicle));
            Check.holds("9: off the road for ever", !x.isOnRoad(vehicle, 3000));
            Check.holds("9: from the day on", !x.isOnRoad(vehicle, 90));
            Check.fails("8: not on the road any more", Check.UNSUPPORTED, () -> x.setOnRoad(asked, true) ? 1 : 0);
            Check.fails("34: no plate any more", Check.NO_ELEMENT, () -> x.plateOn(asked, 90));
            Check.same("19: its keeper stays", x.keeperOn(vehicle, 3000), 0);
            Check.same("21: its transfer stays", x.transfers(vehicle), 1);
            x.sell(0, vehicle, 1, 3000);
            x.buy(1, vehicle, 3000);
            Check.same("14: never passes", x.transfers(vehicle), 1);
            Check.same("18: waits", x.openNotices(vehicle), 2);
        }
        Check.same("37: until the day before", x.due(0, 0), 60);
        Check.same("37: not from the day on", x.due(0, 1), 0);
        Check.same("23: left out", x.keptBy(0), 0);
        Check.same("38: one quarter", x.owes(0), 60);
        Check.same("39: one quarter", x.owesByDays(0), 60);
    }

    private static void daysOfNotices() {
        PlateRegister x = Check.withKeepers(2);
        x.register(0, 'c');
        x.register(0, 'c');
        x.pass(7);
        Check.same("13: day 0", x.sell(0, 0, 1, 0), 0);
        Check.same("14: the present day", x.buy(1, 0, 7), 1);
        Check.same("22: 7 days apart", x.transferDay(0, 1), 0);
        Check.same("13: the present day", x.sell(0, 1, 1, 7), 2);
        Check.same("14: day 0", x.buy(1, 1, 0), 3);
        Check.same("22: 7 days apart, the other way", x.transferDay(1, 1), 7);
        PlateRegister y = States.onDay(3000);
        y.addKeeper();
        Check.same("13: the last day", y.sell(0, 0, 1, 3000), 0);
        Check.same("14: the first day", y.buy(1, 0, 0), 1);
        Check.same("21: far apart", y.transfers(0), 1);
        Check.same("14: 8 days apart", y.buy(1, 0, 2992), 2);
        Check.same("21: 8 days apart", y.transfers(0), 1);
        Check.same("14: 7 days apart", y.buy(1, 0, 2993), 3);
        Check.same("21: 7 days apart", y.transfers(0), 2);
        Check.same("19: on the last day", y.keeperOn(0, 3000), 1);
        Check.same("19: a day before", y.keeperOn(0, 2999), 0);
    }

    private static void lienAmounts() {
        PlateRegister x = Check.withKeepers(1);
        x.register(0, 'c');
        Check.same("24: 1", x.addLien(0, 'a', 1), 1);
        Check.same("25: 1 of 1", x.payLien(0, 'a', 1), 0);
        int left = 0;
        for (int i = 0; i < 200; i++) {
            left += 9999;
            Check.same("24: 9999 more", x.addLien(0, 'a', 9999), left);
        }
        Check.same("26: no bound for what is left", x.lienOf(0, 'a'), 1999800);
        Check.fails("25: more than is left", Check.ARGUMENT, () -> x.payLien(0, 'a', 1999801));
        Check.same("25: all but 1", x.payLien(0, 'a', 1999799), 1);
        Check.fails("25: 2 of 1", Check.ARGUMENT, () -> x.payLien(0, 'a', 2));
        Check.fails("25: 0 of 1", Check.ARGUMENT, () -> x.payLien(0, 'a', 0));
        Check.holds("27: 1 is left", x.isBlocked(0));
        Check.same("25: the last", x.payLien(0, 'a', 1), 0);
        Check.holds("27: nothing is left", !x.isBlocked(0));
        Check.fails("25: it has ended", Check.NO_ELEMENT, () -> x.payLien(0, 'a', 1));
        Check.fails("26: it has ended", Check.NO_ELEMENT, () -> x.lienOf(0, 'a'));
        Check.same("24: a new one begins from 0", x.addLien(0, 'a', 9999), 9999);
        Check.same("25: all at once", x.payLien(0, 'a', 9999), 0);
    }

    private static void lendersAToF() {
        PlateRegister x = Check.withKeepers(1);
        x.register(0, 'c');
        x.register(0, 'c');
        for (char lender = 'a'; lender <= 'f'; lender++) {
            Check.same("24: lender", x.addLien(0, lender, lender), lender);
        }
        for (char lender = 'a'; lender <= 'f'; lender++) {
            char letter = lender;
            Check.same("26: each has its own", x.lienOf(0, lender), lender);
            Check.fails("26: of one vehicle", Check.NO_ELEMENT, () -> x.lienOf(1, letter));
        }
        Check.same("25: one of them", x.payLien(0, 'c', 98), 1);
        Check.same("26: the one before", x.lienOf(0, 'b'), 'b');
        Check.same("26: the one behind", x.lienOf(0, 'd'), 'd');
    }

    private static void blockedWhileItHasALien() {
        PlateRegister x = Check.withKeepers(2);
        x.register(0, 'c');
        for (char lender = 'a'; lender <= 'f'; lender++) {
            x.addLien(0, lender, 2);
        }
        x.sell(0, 0, 1, 0);
        x.buy(1, 0, 0);
        for (char lender = 'f'; lender >= 'a'; lender--) {
            Check.same("25: one of two", x.payLien(0, lender, 1), 1);
            Check.holds("27: while it has one", x.isBlocked(0));
            Check.same("14: while it has one", x.transfers(0), 1);
            Check.fails("10: while it has one", Check.STATE, () -> x.scrap(0));
            Check.same("25: the last of two", x.payLien(0, lender, 1), 0);
        }
        Check.holds("27: the last has ended", !x.isBlocked(0));
        Check.same("14: the last has ended", x.transfers(0), 2);
        Check.same("19: the buyer", x.keeperOn(0, 0), 1);
        Check.same("10: the last has ended", x.scrap(0), 0);
    }

    private static void plateKept361Days() {
        for (int day : new int[] {0, 1, 89, 100, 2639}) {
            PlateRegister x = States.onDay(day);
            x.register(0, 'c');
            x.keepPlate(0);
            Check.same("32: on the same day", x.daysKept(0), 361);
            Check.passTo(x, day + 1);
            Check.same("32: on the next day", x.daysKept(0), 360);
            Check.passTo(x, day + 360);
            Check.same("32: on the last day", x.daysKept(0), 1);
            Check.same("31: on the last day", x.plateState(0), 'k');
            x.pass(1);
            Check.same("31: on the day that comes 361 days after", x.plateState(0), 'x');
            Check.fails("32: void", Check.STATE, () -> x.daysKept(0));
            Check.fails("29: void", Check.UNSUPPORTED, () -> x.putOn(0, 1));
        }
        PlateRegister y = States.onDay(5);
        y.keepPlate(0);
        Check.passTo(y, 365);
        Check.same("29: on the last day", y.putOn(0, 0), 1);
        Check.same("31: on the vehicle again", y.plateState(0), 'v');
        y.pass(1);
        Check.same("31: not void on the vehicle", y.plateState(0), 'v');
        Check.passTo(y, 3000);
        Check.same("34: still on it", y.plateOn(0, 3000), 0);
        Check.same("31: the other one is void at once", y.plateState(1), 'x');
    }

    private static void plateKeptAgain() {
        PlateRegister x = States.onDay(10);
        x.keepPlate(0);
        x.pass(99);
        x.putOn(0, 0);
        x.pass(91);
        Check.same("28: kept a second time, on day 200", x.keepPlate(0), 2);
        Check.same("32: counted from the second time", x.daysKept(0), 361);
        Check.passTo(x, 371);
        Check.same("31: 361 days after the first time", x.plateState(0), 'k');
        Check.same("32: 361 days after the first time", x.daysKept(0), 190);
        Check.passTo(x, 560);
        Check.same("32: the last day", x.daysKept(0), 1);
        x.pass(1);
        Check.same("31: 361 days after the second time", x.plateState(0), 'x');
    }

    private static void plateKeptUntilTheLastDay() {
        PlateRegister x = States.onDay(2640);
        x.keepPlate(0);
        Check.passTo(x, 3000);
        Check.same("32: one day is left", x.daysKept(0), 1);
        Check.same("31: kept", x.plateState(0), 'k');
        x.keepPlate(0);
        Check.same("32: taken off on the last day", x.daysKept(1), 361);
    }

    private static void plateVoidForEver() {
        PlateRegister x = Check.withKeepers(1);
        x.register(0, 'c');
        x.register(0, 'c');
        x.register(0, 'c');
        x.keepPlate(0);
        x.keepPlate(0);
        x.putOn(0, 1);
        x.scrap(2);
        x.pass(1);
        for (int plate : new int[] {1, 2}) {
            Check.same("31: replaced, or of a scrapped one", x.plateState(plate), 'x');
            Check.fails("29: void", Check.UNSUPPORTED, () -> x.putOn(plate, 0));
            Check.fails("32: void", Check.STATE, () -> x.daysKept(plate));
            Check.fails("35: void", Check.STATE, () -> x.vehicleWith(plate, 0));
            Check.fails("36: void", Check.STATE, () -> x.vehicleByVehicles(plate, 0));
        }
        Check.same("31: the third waits", x.plateState(3), 'k');
        Check.passTo(x, 3000);
        for (int plate : new int[] {1, 2, 3}) {
            Check.same("31: for ever", x.plateState(plate), 'x');
            Check.fails("29: for ever", Check.UNSUPPORTED, () -> x.putOn(plate, 0));
        }
        Check.same("31: not those on vehicles", x.plateState(0), 'v');
        Check.same("31: nor the new one", x.plateState(4), 'v');
    }

    private static void placesOfAPlate() {
        PlateRegister x = Check.withKeepers(1);
        x.pass(10);
        x.register(0, 'c');
        x.register(0, 'c');
        x.pass(10);
        x.keepPlate(0);
        x.pass(10);
        x.putOn(0, 1);
        x.pass(10);
        x.scrap(1);
        int[][] places = {{9, -1}, {10, 0}, {19, 0}, {20, -1}, {29, -1}, {30, 1}, {39, 1}, {40, -1}, {0, -1}};
        for (int[] place : places) {
            if (place[1] < 0) {
                Check.fails("35: day " + place[0], Check.STATE, () -> x.vehicleWith(0, place[0]));
                Check.fails("36: day " + place[0], Check.STATE, () -> x.vehicleByVehicles(0, place[0]));
            } else {
                Check.same("35: day " + place[0], x.vehicleWith(0, place[0]), place[1]);
                Check.same("36: day " + place[0], x.vehicleByVehicles(0, place[0]), place[1]);
                Check.same("34: day " + place[0], x.plateOn(place[1], place[0]), 0);
            }
        }
    }

    private static void quarterHas90Days() {
        for (int quarter : new int[] {0, 1, 17, 32}) {
            PlateRegister x = States.onDay(quarter * 90);
            Check.same("37: its first day", x.due(0, quarter), 60);
            Check.fails("37: the next has not begun", Check.ARGUMENT, () -> x.due(0, quarter + 1));
            Check.passTo(x, quarter * 90 + 89);
            Check.same("37: its last day", x.due(0, quarter), 60);
            Check.fails("37: the next has not begun yet", Check.ARGUMENT, () -> x.due(0, quarter + 1));
            Check.same("38: its last day", x.owes(0), 60 * (quarter + 1));
            Check.same("39: its last day", x.owesByDays(0), 60 * (quarter + 1));
            x.pass(1);
            Check.same("37: the next begins", x.due(0, quarter + 1), 60);
            Check.same("38: the next begins", x.owes(0), 60 * (quarter + 2));
            Check.same("39: the next begins", x.owesByDays(0), 60 * (quarter + 2));
            Check.fails("37: quarter -1", Check.ARGUMENT, () -> x.due(0, -1));
        }
    }

    /** A vehicle that is on the road at the end of one day alone, and bought on this day or near it. */
    private static void oneRoadDay() {
        for (int day : new int[] {0, 1, 88, 89, 90, 91, 179, 180, 2969, 2970}) {
            for (int bought : new int[] {Math.max(0, day - 1), day, day + 1}) {
                PlateRegister x = Check.withKeepers(2);
                x.bringIn(0, 'l');
                Check.passTo(x, day);
                x.admit(0);
                Check.same("37: now", x.due(0, day / 90), 150);
                x.pass(1);
                x.setOnRoad(0, false);
                Check.passTo(x, Math.min(3000, day + 200));
                x.sell(0, 0, 1, bought);
                x.buy(1, 0, bought);
                oneTax(x, day, bought <= day ? 1 : 0);
            }
        }
    }

    private static void oneTax(PlateRegister x, int day, int payer) {
        String name = "day " + day + ", payer " + payer;
        for (int quarter = Math.max(0, day / 90 - 2); quarter <= x.day() / 90; quarter++) {
            Check.same("37: " + name, x.due(0, quarter), quarter == day / 90 ? 150 : 0);
        }
        Check.same("38: " + name, x.owes(payer), 150);
        Check.same("39: " + name, x.owesByDays(payer), 150);
        Check.same("38: the other one, " + name, x.owes(1 - payer), 0);
        Check.same("39: the other one, " + name, x.owesByDays(1 - payer), 0);
        Check.same("41: " + name, x.mostOwing(), payer);
    }

    private static void lastQuarter() {
        PlateRegister x = States.onDay(3000);
        Check.same("37: the last that begins", x.due(0, 33), 60);
        Check.fails("37: never begins", Check.ARGUMENT, () -> x.due(0, 34));
        Check.same("38: 34 quarters", x.owes(0), 2040);
        Check.same("39: 34 quarters", x.owesByDays(0), 2040);
        x.register(0, 'l');
        Check.same("37: on the last day", x.due(1, 33), 150);
        Check.same("39: on the last day", x.owesByDays(0), 2190);
        x.setOnRoad(1, false);
        Check.same("37: not now", x.due(1, 33), 0);
        Check.same("38: not now", x.owes(0), 2040);
        Check.same("39: not now", x.owesByDays(0), 2040);
        x.scrap(0);
        Check.same("37: it was in this quarter", x.due(0, 33), 60);
    }

    private static void payments() {
        PlateRegister x = Check.withKeepers(2);
        x.register(0, 'm');
        Check.same("40: 1", x.pay(0, 1), 19);
        Check.same("40: what is left", x.pay(0, 19), 0);
        Check.same("40: less than 0", x.pay(0, 1), -1);
        Check.same("38: less than 0", x.owes(0), -1);
        Check.same("39: less than 0", x.owesByDays(0), -1);
        for (int i = 1; i <= 300; i++) {
            Check.same("40: 9999", x.pay(1, 9999), -9999 * i);
        }
        Check.same("42: all of it", x.collected(), 300 * 9999 + 21);
        Check.same("39: far less than 0", x.owesByDays(1), -2999700);
        Check.same("38: the other one", x.owes(0), -1);
    }

    private static void mostOwing() {
        PlateRegister x = Check.withKeepers(12);
        Check.fails("41: all owe 0", Check.NO_ELEMENT, x::mostOwing);
        x.register(5, 'h');
        Check.fails("41: a historic vehicle", Check.NO_ELEMENT, x::mostOwing);
        x.pay(0, 5);
        Check.fails("41: less than 0", Check.NO_ELEMENT, x::mostOwing);
        x.register(11, 'm');
        Check.same("41: the last one", x.mostOwing(), 11);
        x.register(10, 'm');
        Check.same("41: the lowest of two", x.mostOwing(), 10);
        x.register(0, 'm');
        Check.same("41: 15 is not most", x.mostOwing(), 10);
        x.pay(10, 19);
        Check.same("41: 1 is not most", x.mostOwing(), 11);
        x.pay(11, 20);
        x.pay(0, 15);
        Check.same("41: 1 is most", x.mostOwing(), 10);
        x.pay(10, 1);
        Check.fails("41: 0 is not more than 0", Check.NO_ELEMENT, x::mostOwing);
    }

    private static void shares() {
        PlateRegister x = Check.withKeepers(2);
        for (int i = 1; i <= 15; i++) {
            x.register(0, 'c');
            Check.holds("43: all of " + i, x.roadShare() == 1.0f);
            Check.holds("44: the first ones of " + i, x.meanTransfers() == 1.0);
        }
        for (int i = 0; i < 15; i++) {
            Check.holds("43: from " + i + " on", x.roadShare() == (float) (15 - i) / 15f);
            if (i % 2 == 0) {
                x.scrap(i);
            } else {
                x.setOnRoad(i, false);
                x.sell(0, i, 1, 0);
                x.buy(1, i, 0);
            }
            Check.holds("44: up to " + i, x.meanTransfers() == (double) (15 + (i + 1) / 2) / 15.0);
        }
        Check.holds("43: none of 15", x.roadShare() == 0.0f);
    }

    private static void counts() {
        PlateRegister x = Check.withKeepers(2);
        for (int i = 0; i < 15; i++) {
            Check.same("23: kept", x.keptBy(0), i);
            x.register(0, 'c');
        }
        Check.same("23: all", x.keptBy(0), 15);
        Check.same("23: none", x.keptBy(1), 0);
        for (int i = 0; i < 15; i++) {
            Check.same("10: not scrapped", x.scrap(i), 14 - i);
            Check.same("23: not scrapped", x.keptBy(0), 14 - i);
        }
        Check.same("12: scrapped ones included", x.vehicles(), 15);
        Check.same("33: void ones included", x.plates(), 15);
        for (int i = 0; i < 120; i++) {
            x.buy(0, 14, 0);
        }
        Check.same("18: all", x.openNotices(14), 120);
        Check.same("18: none", x.openNotices(0), 0);
        for (int i = 0; i < 120; i++) {
            Check.same("15: open", x.withdraw(i), 119 - i);
        }
        Check.same("18: none any more", x.openNotices(14), 0);
    }
}
