import java.util.function.Supplier;

/**
 * Every "Throws .. if ..": each cause alone; then "if several exceptions apply, the one that is
 * listed first is thrown", each pair; and with each of them "a method that throws an exception
 * changes nothing".
 */
public final class RefusedCallsTest {
    private static final int LOW = Integer.MIN_VALUE;
    private static final int HIGH = Integer.MAX_VALUE;
    private static final char[] NO_KINDS = {
        (char) 0, 'b', 'd', 'g', 'i', 'k', 'n', 'C', 'M', 'L', 'H', 'x', (char) 0xFFFF, (char) ('c' + 256)
    };
    private static final char[] NO_LENDERS = {
        (char) 0, '`', 'g', 'A', 'F', 'z', (char) ('a' + 256), (char) 0xFFFF
    };

    private interface Call {
        long on(PlateRegister x);
    }

    private RefusedCallsTest() {
    }

    public static void main(String[] args) {
        keepersAndDays();
        newVehicles();
        admitAndRoad();
        scrapAndKind();
        sell();
        buy();
        notices();
        keepersOfDays();
        transfers();
        addLien();
        payLien();
        keepPlate();
        putOn();
        swapPlates();
        plateStates();
        platesOfDays();
        taxes();
        emptyRegister();
        Check.end();
    }

    private static void refused(String what, Supplier<PlateRegister> state, Class<?> due, Call call) {
        PlateRegister x = state.get();
        Check.fails(what, due, () -> call.on(x));
        Check.sameText(what + ", then it answers", Snapshot.of(x), Snapshot.of(state.get()));
    }

    /** A refused call in the register that {@link States#office} describes. */
    private static void refused(String what, Class<?> due, Call call) {
        refused(what, States::office, due, call);
    }

    private static int[] outside(int count) {
        return new int[] {LOW, -1, count, count + 1, HIGH};
    }

    private static long bit(boolean answer) {
        return answer ? 1 : 0;
    }

    private static void keepersAndDays() {
        refused("2: a 13th keeper", States::fullOfKeepers, Check.STATE, PlateRegister::addKeeper);
        for (int days : new int[] {LOW, -1, 0, 100, HIGH}) {
            refused("3: " + days + " days", Check.ARGUMENT, x -> x.pass(days));
        }
        refused("3: from 3000 on", () -> States.onDay(3000), Check.ARGUMENT, x -> x.pass(1));
        refused("3: from 2999 to 3001", () -> States.onDay(2999), Check.ARGUMENT, x -> x.pass(2));
        refused("3: from 2902 to 3001", () -> States.onDay(2902), Check.ARGUMENT, x -> x.pass(99));
    }

    private static void newVehicles() {
        for (int keeper : outside(3)) {
            refused("5: keeper " + keeper, Check.INDEX, x -> x.register(keeper, 'c'));
            refused("6: keeper " + keeper, Check.INDEX, x -> x.bringIn(keeper, 'c'));
            refused("5: keeper before kind", Check.INDEX, x -> x.register(keeper, 'x'));
            refused("6: keeper before kind", Check.INDEX, x -> x.bringIn(keeper, 'x'));
        }
        for (char kind : NO_KINDS) {
            refused("5: kind " + (int) kind, Check.ARGUMENT, x -> x.register(0, kind));
            refused("6: kind " + (int) kind, Check.ARGUMENT, x -> x.bringIn(0, kind));
        }
        refused("5: 15 vehicles", States::fullOfVehicles, Check.STATE, x -> x.register(0, 'c'));
        refused("6: 15 vehicles", States::fullOfVehicles, Check.STATE, x -> x.bringIn(0, 'c'));
        refused("5: keeper before vehicles", States::fullOfVehicles, Check.INDEX, x -> x.register(1, 'c'));
        refused("6: keeper before vehicles", States::fullOfVehicles, Check.INDEX, x -> x.bringIn(1, 'c'));
        refused("5: kind before vehicles", States::fullOfVehicles, Check.ARGUMENT, x -> x.register(0, 'x'));
        refused("6: kind before vehicles", States::fullOfVehicles, Check.ARGUMENT, x -> x.bringIn(0, 'x'));
        refused("5: 40 plates", States::fullOfPlates, Check.STATE, x -> x.register(0, 'c'));
        refused("5: keeper before plates", States::fullOfPlates, Check.INDEX, x -> x.register(-1, 'c'));
        refused("5: kind before plates", States::fullOfPlates, Check.ARGUMENT, x -> x.register(0, 'x'));
    }

    private static PlateRegister fullOfPlatesAndScrapped() {
        PlateRegister x = States.fullOfPlates();
        x.scrap(0);
        x.scrap(1);
        return x;
    }

    private static void admitAndRoad() {
        for (int vehicle : outside(8)) {
            refused("7: vehicle " + vehicle, Check.INDEX, x -> x.admit(vehicle));
            refused("8: vehicle " + vehicle, Check.INDEX, x -> bit(x.setOnRoad(vehicle, true)));
            refused("9: vehicle " + vehicle, Check.INDEX, x -> bit(x.isOnRoad(vehicle, 100)));
            refused("9: vehicle before day", Check.INDEX, x -> bit(x.isOnRoad(vehicle, 101)));
        }
        refused("7: registered here", Check.UNSUPPORTED, x -> x.admit(0));
        refused("7: admitted", () -> {
            PlateRegister x = States.office();
            x.admit(2);
            return x;
        }, Check.UNSUPPORTED, x -> x.admit(2));
        refused("7: scrapped", Check.STATE, x -> x.admit(6));
        refused("7: 40 plates", States::fullOfPlates, Check.STATE, x -> x.admit(1));
        refused("7: registered before scrapped", Check.UNSUPPORTED, x -> x.admit(4));
        refused("7: registered before 40 plates", States::fullOfPlates, Check.UNSUPPORTED, x -> x.admit(0));
        refused("7: scrapped and 40 plates", RefusedCallsTest::fullOfPlatesAndScrapped, Check.STATE, x -> x.admit(1));
        for (boolean isOnRoad : new boolean[] {false, true}) {
            refused("8: scrapped", Check.UNSUPPORTED, x -> bit(x.setOnRoad(4, isOnRoad)));
            refused("8: scrapped before it was admitted", Check.UNSUPPORTED, x -> bit(x.setOnRoad(6, isOnRoad)));
            refused("8: no plate", Check.UNSUPPORTED, x -> bit(x.setOnRoad(2, isOnRoad)));
        }
        for (int day : outside(101)) {
            refused("9: day " + day, Check.ARGUMENT, x -> bit(x.isOnRoad(0, day)));
        }
    }

    private static void scrapAndKind() {
        for (int vehicle : outside(8)) {
            refused("10: vehicle " + vehicle, Check.INDEX, x -> x.scrap(vehicle));
            refused("11: vehicle " + vehicle, Check.INDEX, x -> x.kindOf(vehicle));
        }
        refused("10: a lien", Check.STATE, x -> x.scrap(1));
        refused("10: a lien, without plate", Check.STATE, x -> x.scrap(5));
        refused("10: twice", Check.STATE, x -> x.scrap(4));
        refused("10: twice, without plate", Check.STATE, x -> x.scrap(6));
    }

    private static void sell() {
        for (int keeper : outside(3)) {
            refused("13: seller " + keeper, Check.INDEX, x -> x.sell(keeper, 0, 1, 100));
            refused("13: buyer " + keeper, Check.INDEX, x -> x.sell(0, 0, keeper, 100));
            refused("13: seller before day", Check.INDEX, x -> x.sell(keeper, 0, 1, 101));
            refused("13: buyer before day", Check.INDEX, x -> x.sell(0, 0, keeper, -1));
            refused("13: keepers before same", Check.INDEX, x -> x.sell(keeper, 0, keeper, 100));
        }
        for (int vehicle : outside(8)) {
            refused("13: vehicle " + vehicle, Check.INDEX, x -> x.sell(0, vehicle, 1, 100));
            refused("13: vehicle before day", Check.INDEX, x -> x.sell(0, vehicle, 1, 101));
            refused("13: vehicle before same", Check.INDEX, x -> x.sell(0, vehicle, 0, 100));
        }
        for (int day : outside(101)) {
            refused("13: day " + day, Check.ARGUMENT, x -> x.sell(0, 0, 1, day));
            refused("13: day before same", Check.ARGUMENT, x -> x.sell(0, 0, 0, day));
        }
        refused("13: the same", Check.UNSUPPORTED, x -> x.sell(0, 0, 0, 100));
        refused("13: the same, not its keeper", Check.UNSUPPORTED, x -> x.sell(2, 0, 2, 0));
        Supplier<PlateRegister> full = States::fullOfNotices;
        refused("13: 120 notices", full, Check.STATE, x -> x.sell(0, 0, 1, 0));
        refused("13: seller before notices", full, Check.INDEX, x -> x.sell(2, 0, 1, 0));
        refused("13: buyer before notices", full, Check.INDEX, x -> x.sell(0, 0, 2, 0));
        refused("13: vehicle before notices", full, Check.INDEX, x -> x.sell(0, 1, 1, 0));
        refused("13: day before notices", full, Check.ARGUMENT, x -> x.sell(0, 0, 1, 1));
        refused("13: the same before notices", full, Check.UNSUPPORTED, x -> x.sell(0, 0, 0, 0));
    }

    private static void buy() {
        for (int keeper : outside(3)) {
            refused("14: buyer " + keeper, Check.INDEX, x -> x.buy(keeper, 0, 100));
            refused("14: buyer before day", Check.INDEX, x -> x.buy(keeper, 0, 101));
        }
        for (int vehicle : outside(8)) {
            refused("14: vehicle " + vehicle, Check.INDEX, x -> x.buy(0, vehicle, 100));
            refused("14: vehicle before day", Check.INDEX, x -> x.buy(0, vehicle, -1));
        }
        for (int day : outside(101)) {
            refused("14: day " + day, Check.ARGUMENT, x -> x.buy(0, 0, day));
        }
        Supplier<PlateRegister> full = States::fullOfNotices;
        refused("14: 120 notices", full, Check.STATE, x -> x.buy(1, 0, 0));
        refused("14: buyer before notices", full, Check.INDEX, x -> x.buy(2, 0, 0));
        refused("14: vehicle before notices", full, Check.INDEX, x -> x.buy(1, 1, 0));
        refused("14: day before notices", full, Check.ARGUMENT, x -> x.buy(1, 0, -1));
    }

    private static void notices() {
        for (int notice : outside(5)) {
            refused("15: notice " + notice, Check.NO_ELEMENT, x -> x.withdraw(notice));
            refused("16: notice " + notice, Check.NO_ELEMENT, x -> x.stateOf(notice));
            refused("17: notice " + notice, Check.NO_ELEMENT, x -> x.partnerOf(notice));
        }
        for (int notice : outside(120)) {
            Supplier<PlateRegister> full = States::fullOfNotices;
            refused("15: notice " + notice, full, Check.NO_ELEMENT, x -> x.withdraw(notice));
            refused("16: notice " + notice, full, Check.NO_ELEMENT, x -> x.stateOf(notice));
            refused("17: notice " + notice, full, Check.NO_ELEMENT, x -> x.partnerOf(notice));
        }
        refused("15: withdrawn", Check.STATE, x -> x.withdraw(2));
        refused("15: used, a seller's", Check.STATE, x -> x.withdraw(3));
        refused("15: used, a buyer's", Check.STATE, x -> x.withdraw(4));
        refused("17: open, a seller's", Check.STATE, x -> x.partnerOf(0));
        refused("17: open, a buyer's", Check.STATE, x -> x.partnerOf(1));
        refused("17: withdrawn", Check.STATE, x -> x.partnerOf(2));
    }

    private static void keepersOfDays() {
        for (int vehicle : outside(8)) {
            refused("18: vehicle " + vehicle, Check.INDEX, x -> x.openNotices(vehicle));
            refused("19: vehicle " + vehicle, Check.INDEX, x -> x.keeperOn(vehicle, 100));
            refused("20: vehicle " + vehicle, Check.INDEX, x -> x.keeperByGoing(vehicle, 100));
            refused("19: vehicle before day", Check.INDEX, x -> x.keeperOn(vehicle, 101));
            refused("20: vehicle before day", Check.INDEX, x -> x.keeperByGoing(vehicle, 101));
        }
        for (int day : outside(101)) {
            refused("19: day " + day, Check.ARGUMENT, x -> x.keeperOn(0, day));
            refused("20: day " + day, Check.ARGUMENT, x -> x.keeperByGoing(0, day));
            refused("19: day before came later", Check.ARGUMENT, x -> x.keeperOn(7, day));
            refused("20: day before came later", Check.ARGUMENT, x -> x.keeperByGoing(7, day));
        }
        for (int day : new int[] {0, 98}) {
            refused("19: came later", Check.NO_ELEMENT, x -> x.keeperOn(7, day));
            refused("20: came later", Check.NO_ELEMENT, x -> x.keeperByGoing(7, day));
        }
    }

    private static void transfers() {
        for (int vehicle : outside(8)) {
            refused("21: vehicle " + vehicle, Check.INDEX, x -> x.transfers(vehicle));
            refused("22: vehicle " + vehicle, Check.INDEX, x -> x.transferDay(vehicle, 0));
        }
        for (int index : outside(2)) {
            refused("22: transfer " + index, Check.INDEX, x -> x.transferDay(3, index));
        }
        refused("22: transfer 1 of one", Check.INDEX, x -> x.transferDay(0, 1));
        for (int keeper : outside(3)) {
            refused("23: keeper " + keeper, Check.INDEX, x -> x.keptBy(keeper));
        }
    }

    private static void addLien() {
        for (int vehicle : outside(8)) {
            refused("24: vehicle " + vehicle, Check.INDEX, x -> x.addLien(vehicle, 'a', 1));
            refused("24: vehicle before lender", Check.INDEX, x -> x.addLien(vehicle, 'g', 1));
            refused("24: vehicle before amount", Check.INDEX, x -> x.addLien(vehicle, 'a', 0));
            refused("27: vehicle " + vehicle, Check.INDEX, x -> bit(x.isBlocked(vehicle)));
        }
        for (char lender : NO_LENDERS) {
            refused("24: lender " + (int) lender, Check.ARGUMENT, x -> x.addLien(0, lender, 1));
            refused("24: lender before scrapped", Check.ARGUMENT, x -> x.addLien(4, lender, 1));
        }
        for (int amount : new int[] {LOW, -1, 0, 10000, HIGH}) {
            refused("24: amount " + amount, Check.ARGUMENT, x -> x.addLien(0, 'a', amount));
            refused("24: amount for more", Check.ARGUMENT, x -> x.addLien(1, 'b', amount));
            refused("24: amount before scrapped", Check.ARGUMENT, x -> x.addLien(4, 'a', amount));
        }
        refused("24: scrapped", Check.STATE, x -> x.addLien(4, 'a', 1));
        refused("24: scrapped before it was admitted", Check.STATE, x -> x.addLien(6, 'f', 9999));
    }

    private static void payLien() {
        for (int vehicle : outside(8)) {
            refused("25: vehicle " + vehicle, Check.INDEX, x -> x.payLien(vehicle, 'b', 1));
            refused("25: vehicle before lender", Check.INDEX, x -> x.payLien(vehicle, 'g', 1));
            refused("25: vehicle before amount", Check.INDEX, x -> x.payLien(vehicle, 'b', 0));
            refused("26: vehicle " + vehicle, Check.INDEX, x -> x.lienOf(vehicle, 'b'));
            refused("26: vehicle before lender", Check.INDEX, x -> x.lienOf(vehicle, 'g'));
        }
        for (char lender : NO_LENDERS) {
            refused("25: lender " + (int) lender, Check.NO_ELEMENT, x -> x.payLien(1, lender, 1));
            refused("26: lender " + (int) lender, Check.NO_ELEMENT, x -> x.lienOf(1, lender));
        }
        refused("25: another lender's", Check.NO_ELEMENT, x -> x.payLien(1, 'a', 1));
        refused("25: of another vehicle", Check.NO_ELEMENT, x -> x.payLien(0, 'b', 1));
        refused("25: scrapped", Check.NO_ELEMENT, x -> x.payLien(4, 'b', 1));
        refused("26: another lender's", Check.NO_ELEMENT, x -> x.lienOf(1, 'c'));
        refused("26: of another vehicle", Check.NO_ELEMENT, x -> x.lienOf(0, 'b'));
        for (int amount : new int[] {LOW, -1, 0, 51, 9999, 10000, HIGH}) {
            refused("25: amount " + amount, Check.ARGUMENT, x -> x.payLien(1, 'b', amount));
            refused("25: no lien before amount", Check.NO_ELEMENT, x -> x.payLien(1, 'a', amount));
        }
    }

    private static void keepPlate() {
        for (int vehicle : outside(8)) {
            refused("28: vehicle " + vehicle, Check.INDEX, x -> x.keepPlate(vehicle));
        }
        refused("28: no plate", Check.NO_ELEMENT, x -> x.keepPlate(2));
        refused("28: no plate before blocked", Check.NO_ELEMENT, x -> x.keepPlate(5));
        refused("28: no plate, scrapped", Check.NO_ELEMENT, x -> x.keepPlate(4));
        refused("28: no plate before 40 plates", States::fullOfPlates, Check.NO_ELEMENT, x -> x.keepPlate(1));
        refused("28: blocked", Check.STATE, x -> x.keepPlate(1));
        refused("28: 40 plates", States::fullOfPlates, Check.STATE, x -> x.keepPlate(0));
    }

    private static PlateRegister plateRunOut() {
        PlateRegister x = States.office();
        Check.passTo(x, 99 + 361);
        return x;
    }

    private static PlateRegister plateReplaced() {
        PlateRegister x = States.office();
        x.putOn(0, 0);
        return x;
    }

    private static void putOn() {
        for (int plate : outside(6)) {
            refused("29: plate " + plate, Check.NO_ELEMENT, x -> x.putOn(plate, 0));
            refused("29: plate before vehicle", Check.NO_ELEMENT, x -> x.putOn(plate, 8));
            refused("29: plate before blocked", Check.NO_ELEMENT, x -> x.putOn(plate, 1));
        }
        for (int vehicle : outside(8)) {
            refused("29: vehicle " + vehicle, Check.INDEX, x -> x.putOn(0, vehicle));
            refused("29: vehicle before not kept", Check.INDEX, x -> x.putOn(1, vehicle));
        }
        refused("29: on this vehicle", Check.UNSUPPORTED, x -> x.putOn(5, 0));
        refused("29: on another vehicle", Check.UNSUPPORTED, x -> x.putOn(4, 0));
        refused("29: void by scrapping", Check.UNSUPPORTED, x -> x.putOn(3, 0));
        refused("29: void after 361 days", RefusedCallsTest::plateRunOut, Check.UNSUPPORTED, x -> x.putOn(0, 0));
        refused("29: void by replacing", RefusedCallsTest::plateReplaced, Check.UNSUPPORTED, x -> x.putOn(5, 0));
        refused("29: another keeper's", Check.UNSUPPORTED, x -> x.putOn(0, 3));
        refused("29: not kept before blocked", Check.UNSUPPORTED, x -> x.putOn(1, 1));
        refused("29: not kept before no plate", Check.UNSUPPORTED, x -> x.putOn(1, 2));
        refused("29: another keeper's before blocked", RefusedCallsTest::otherKeeperBlocked, Check.UNSUPPORTED,
                x -> x.putOn(0, 3));
        refused("29: blocked", Check.STATE, x -> x.putOn(0, 1));
        refused("29: no plate", Check.STATE, x -> x.putOn(0, 2));
        refused("29: blocked and no plate", Check.STATE, x -> x.putOn(0, 5));
        refused("29: scrapped", Check.STATE, x -> x.putOn(0, 4));
    }

    private static PlateRegister otherKeeperBlocked() {
        PlateRegister x = States.office();
        x.addLien(3, 'a', 1);
        return x;
    }

    private static void swapPlates() {
        for (int vehicle : outside(8)) {
            refused("30: first " + vehicle, Check.INDEX, x -> x.swapPlates(vehicle, 0));
            refused("30: second " + vehicle, Check.INDEX, x -> x.swapPlates(0, vehicle));
            refused("30: index before same", Check.INDEX, x -> x.swapPlates(vehicle, vehicle));
            refused("30: index before blocked", Check.INDEX, x -> x.swapPlates(1, vehicle));
        }
        refused("30: the same", Check.UNSUPPORTED, x -> x.swapPlates(0, 0));
        refused("30: the same before blocked", Check.UNSUPPORTED, x -> x.swapPlates(1, 1));
        refused("30: the same before no plate", Check.UNSUPPORTED, x -> x.swapPlates(2, 2));
        refused("30: the same before scrapped", Check.UNSUPPORTED, x -> x.swapPlates(4, 4));
        refused("30: two keepers", Check.UNSUPPORTED, x -> x.swapPlates(0, 3));
        refused("30: two keepers before blocked", Check.UNSUPPORTED, x -> x.swapPlates(3, 1));
        refused("30: two keepers before no plate", Check.UNSUPPORTED, x -> x.swapPlates(2, 3));
        refused("30: two keepers, both blocked", RefusedCallsTest::otherKeeperBlocked, Check.UNSUPPORTED,
                x -> x.swapPlates(1, 3));
        for (int other : new int[] {1, 2, 4, 5, 6}) {
            refused("30: second blocked or without plate", Check.STATE, x -> x.swapPlates(0, other));
            refused("30: first blocked or without plate", Check.STATE, x -> x.swapPlates(other, 0));
        }
        refused("30: one blocked, one without plate", Check.STATE, x -> x.swapPlates(1, 2));
    }

    private static void plateStates() {
        for (int plate : outside(6)) {
            refused("31: plate " + plate, Check.NO_ELEMENT, x -> x.plateState(plate));
            refused("32: plate " + plate, Check.NO_ELEMENT, x -> x.daysKept(plate));
        }
        for (int plate : outside(40)) {
            Supplier<PlateRegister> full = States::fullOfPlates;
            refused("31: plate " + plate, full, Check.NO_ELEMENT, x -> x.plateState(plate));
            refused("32: plate " + plate, full, Check.NO_ELEMENT, x -> x.daysKept(plate));
            refused("35: plate " + plate, full, Check.NO_ELEMENT, x -> x.vehicleWith(plate, 0));
            refused("36: plate " + plate, full, Check.NO_ELEMENT, x -> x.vehicleByVehicles(plate, 0));
        }
        refused("32: on a vehicle", Check.STATE, x -> x.daysKept(1));
        refused("32: void by scrapping", Check.STATE, x -> x.daysKept(3));
        refused("32: void after 361 days", RefusedCallsTest::plateRunOut, Check.STATE, x -> x.daysKept(0));
        refused("32: void by replacing", RefusedCallsTest::plateReplaced, Check.STATE, x -> x.daysKept(5));
        refused("32: put on again", RefusedCallsTest::plateReplaced, Check.STATE, x -> x.daysKept(0));
    }

    private static void platesOfDays() {
        for (int vehicle : outside(8)) {
            refused("34: vehicle " + vehicle, Check.INDEX, x -> x.plateOn(vehicle, 100));
            refused("34: vehicle before day", Check.INDEX, x -> x.plateOn(vehicle, 101));
        }
        for (int plate : outside(6)) {
            refused("35: plate " + plate, Check.NO_ELEMENT, x -> x.vehicleWith(plate, 100));
            refused("36: plate " + plate, Check.NO_ELEMENT, x -> x.vehicleByVehicles(plate, 100));
            refused("35: plate before day", Check.NO_ELEMENT, x -> x.vehicleWith(plate, 101));
            refused("36: plate before day", Check.NO_ELEMENT, x -> x.vehicleByVehicles(plate, 101));
        }
        for (int day : outside(101)) {
            refused("34: day " + day, Check.ARGUMENT, x -> x.plateOn(0, day));
            refused("34: day before none", Check.ARGUMENT, x -> x.plateOn(2, day));
            refused("35: day " + day, Check.ARGUMENT, x -> x.vehicleWith(1, day));
            refused("36: day " + day, Check.ARGUMENT, x -> x.vehicleByVehicles(1, day));
            refused("35: day before on none", Check.ARGUMENT, x -> x.vehicleWith(0, day));
            refused("36: day before on none", Check.ARGUMENT, x -> x.vehicleByVehicles(0, day));
        }
        refused("34: brought in", Check.NO_ELEMENT, x -> x.plateOn(2, 100));
        refused("34: before it came", Check.NO_ELEMENT, x -> x.plateOn(7, 98));
        refused("34: scrapped", Check.NO_ELEMENT, x -> x.plateOn(4, 99));
        int[][] onNone = {{0, 99}, {0, 100}, {3, 99}, {3, 100}, {4, 98}, {5, 98}, {5, 0}};
        for (int[] row : onNone) {
            refused("35: plate " + row[0] + ", day " + row[1], Check.STATE, x -> x.vehicleWith(row[0], row[1]));
            refused("36: plate " + row[0] + ", day " + row[1], Check.STATE, x -> x.vehicleByVehicles(row[0], row[1]));
        }
    }

    private static void taxes() {
        for (int vehicle : outside(8)) {
            refused("37: vehicle " + vehicle, Check.INDEX, x -> x.due(vehicle, 0));
            refused("37: vehicle before quarter", Check.INDEX, x -> x.due(vehicle, 2));
        }
        for (int quarter : outside(2)) {
            refused("37: quarter " + quarter, Check.ARGUMENT, x -> x.due(0, quarter));
        }
        // 90 times these numbers wraps round in an int, to a day below 0 and to day 14.
        refused("37: quarter 2^30", Check.ARGUMENT, x -> x.due(0, 1 << 30));
        refused("37: quarter 47721859", Check.ARGUMENT, x -> x.due(0, 47721859));
        for (int keeper : outside(3)) {
            refused("38: keeper " + keeper, Check.INDEX, x -> x.owes(keeper));
            refused("39: keeper " + keeper, Check.INDEX, x -> x.owesByDays(keeper));
            refused("40: keeper " + keeper, Check.INDEX, x -> x.pay(keeper, 1));
            refused("40: keeper before amount", Check.INDEX, x -> x.pay(keeper, 0));
        }
        for (int amount : new int[] {LOW, -1, 0, 10000, HIGH}) {
            refused("40: amount " + amount, Check.ARGUMENT, x -> x.pay(0, amount));
        }
    }

    private static void emptyRegister() {
        Supplier<PlateRegister> empty = PlateRegister::new;
        refused("41: no keepers", empty, Check.NO_ELEMENT, PlateRegister::mostOwing);
        refused("41: no vehicles", States::fullOfKeepers, Check.NO_ELEMENT, PlateRegister::mostOwing);
        refused("43: no vehicles", empty, Check.ARITHMETIC, x -> (long) x.roadShare());
        refused("43: keepers alone", States::fullOfKeepers, Check.ARITHMETIC, x -> (long) x.roadShare());
        refused("44: no vehicles", empty, Check.ARITHMETIC, x -> (long) x.meanTransfers());
        refused("44: keepers alone", States::fullOfKeepers, Check.ARITHMETIC, x -> (long) x.meanTransfers());
        for (int number : new int[] {LOW, -1, 0, 1, HIGH}) {
            refused("1: no keeper", empty, Check.INDEX, x -> x.keptBy(number));
            refused("1: no keeper to register", empty, Check.INDEX, x -> x.register(number, 'c'));
            refused("1: no vehicle", empty, Check.INDEX, x -> x.kindOf(number));
            refused("1: no plate", empty, Check.NO_ELEMENT, x -> x.plateState(number));
            refused("1: no notice", empty, Check.NO_ELEMENT, x -> x.stateOf(number));
        }
    }
}
