/**
 * "An object is used for at most 512 calls": runs that fill one of its lists, or all of them, as
 * far as so many calls can.
 */
public final class FullRunTest {
    private static final int CALLS = 512;

    private FullRunTest() {
    }

    public static void main(String[] args) {
        roadChangesEachDay(0);
        roadChangesEachDay(85);
        platesMoveEachDay(0);
        platesMoveEachDay(85);
        sixtyTransfersOneByOne();
        sixtyTransfersAtOnce();
        lowestNumberOfTheLatestDay();
        taxesOfSixtyTransfers();
        allLimitsAtOnce();
        Check.end();
    }

    /** 2 calls, 2 a day for 170 days, and 2 for each of 85 days that it asks. */
    private static void roadChangesEachDay(int asked) {
        PlateRegister x = Check.withKeepers(1);
        x.register(0, 'c');
        int calls = 2;
        for (int day = 1; day <= 170; day++) {
            x.pass(1);
            Check.same("8: day " + day, x.setOnRoad(0, day % 2 == 0) ? 1 : 0, day % 2);
            calls += 2;
        }
        for (int day = asked + 1; calls + 2 <= CALLS; day++) {
            Check.same("9: day " + day, x.isOnRoad(0, day) ? 1 : 0, 1 - day % 2);
            Check.same("37: day " + day, x.due(0, day / 90), 60);
            calls += 2;
        }
    }

    /** 3 calls, 2 a day for 169 days, and 2 for each of 85 days that it asks. */
    private static void platesMoveEachDay(int asked) {
        PlateRegister x = Check.withKeepers(1);
        x.register(0, 'c');
        x.register(0, 'c');
        int calls = 3;
        for (int day = 1; day <= 169; day++) {
            x.pass(1);
            Check.same("30: day " + day, x.swapPlates(0, 1), day % 2);
            calls += 2;
        }
        for (int day = asked; calls + 2 <= CALLS; day++) {
            Check.same("34: day " + day, x.plateOn(0, day), day % 2);
            Check.same("35: day " + day, x.vehicleWith(0, day), day % 2);
            calls += 2;
        }
    }

    private static int buyer(int transfer, int keepers) {
        return transfer % keepers;
    }

    private static void sixtyTransfersOneByOne() {
        PlateRegister x = Check.withKeepers(12);
        x.register(0, 'c');
        for (int i = 1; i <= 60; i++) {
            x.pass(1);
            x.sell(buyer(i - 1, 12), 0, buyer(i, 12), i);
            x.buy(buyer(i, 12), 0, i);
        }
        sixtyTransfers(x);
    }

    private static PlateRegister pledgedOnDay60() {
        PlateRegister x = Check.withKeepers(12);
        x.register(0, 'c');
        x.addLien(0, 'a', 9);
        x.pass(60);
        return x;
    }

    private static void sixtyTransfersAtOnce() {
        PlateRegister x = pledgedOnDay60();
        for (int i = 60; i >= 1; i--) {
            x.buy(buyer(i, 12), 0, i);
        }
        for (int i = 1; i <= 60; i++) {
            x.sell(buyer(i - 1, 12), 0, buyer(i, 12), i);
        }
        Check.same("18: all wait", x.openNotices(0), 120);
        Check.same("25: a rest", x.payLien(0, 'a', 8), 1);
        Check.same("18: all wait for the rest", x.openNotices(0), 120);
        Check.same("25: the lien ends", x.payLien(0, 'a', 1), 0);
        sixtyTransfers(x);
    }

    /** The first keeper's lowest notice tells of day 49: what was sold before can't follow it. */
    private static void lowestNumberOfTheLatestDay() {
        PlateRegister x = pledgedOnDay60();
        for (int i = 60; i >= 1; i--) {
            x.sell(buyer(i - 1, 12), 0, buyer(i, 12), i);
            x.buy(buyer(i, 12), 0, i);
        }
        x.payLien(0, 'a', 9);
        Check.same("21: from day 49 on", x.transfers(0), 13);
        Check.same("18: those before wait for ever", x.openNotices(0), 96);
        Check.same("22: the first of them", x.transferDay(0, 1), 49);
        Check.same("22: the last of them", x.transferDay(0, 12), 60);
        Check.same("19: on day 48", x.keeperOn(0, 48), 0);
        Check.same("20: on day 49", x.keeperByGoing(0, 49), 1);
    }

    private static void sixtyTransfers(PlateRegister x) {
        Check.same("21: the first one included", x.transfers(0), 61);
        Check.same("18: all are used", x.openNotices(0), 0);
        for (int i = 0; i <= 60; i++) {
            Check.same("22: transfer " + i, x.transferDay(0, i), i);
            Check.same("19: day " + i, x.keeperOn(0, i), buyer(i, 12));
            Check.same("20: day " + i, x.keeperByGoing(0, i), buyer(i, 12));
        }
        Check.fails("22: transfer 61", Check.INDEX, () -> x.transferDay(0, 61));
        Check.holds("44: 61 of one", x.meanTransfers() == 61.0);
    }

    /** A lorry that changes hands each 50 days among 12 keepers, and is taxed until day 3000. */
    private static void taxesOfSixtyTransfers() {
        PlateRegister x = Check.withKeepers(12);
        x.register(0, 'l');
        for (int i = 1; i <= 60; i++) {
            x.pass(50);
            x.sell(buyer(i - 1, 12), 0, buyer(i, 12), i * 50);
            x.buy(buyer(i, 12), 0, i * 50);
        }
        int[] due = new int[12];
        for (int quarter = 0; quarter <= 33; quarter++) {
            due[buyer(quarter * 90 / 50, 12)] += 150;
        }
        for (int keeper = 0; keeper < 12; keeper++) {
            Check.same("38: keeper " + keeper, x.owes(keeper), due[keeper]);
            Check.same("39: keeper " + keeper, x.owesByDays(keeper), due[keeper]);
        }
        Check.holds("45: sound", x.isSound());
    }

    /** 12 keepers, 15 vehicles, 40 plates, 120 notices, all liens of one vehicle, and day 3000. */
    private static void allLimitsAtOnce() {
        PlateRegister x = Check.withKeepers(12);
        for (int i = 0; i < 15; i++) {
            Check.same("5: vehicle", x.register(i % 12, "cmlh".charAt(i % 4)), i);
        }
        for (int i = 15; i < 40; i++) {
            Check.same("28: plate", x.keepPlate(i % 15), i);
        }
        for (char lender = 'a'; lender <= 'f'; lender++) {
            x.addLien(14, lender, 9999);
        }
        Check.passTo(x, 3000);
        for (int i = 0; i < 60; i++) {
            int vehicle = i % 15;
            int keeper = (vehicle % 12 + i / 15) % 12;
            Check.same("13: notice", x.sell(keeper, vehicle, (keeper + 1) % 12, 3000), 2 * i);
            Check.same("14: notice", x.buy((keeper + 1) % 12, vehicle, 2993), 2 * i + 1);
        }
        for (int i = 0; i < 15; i++) {
            boolean isFree = i < 14;
            Check.same("21: vehicle " + i, x.transfers(i), isFree ? 5 : 1);
            Check.same("18: vehicle " + i, x.openNotices(i), isFree ? 0 : 8);
            Check.same("19: vehicle " + i, x.keeperOn(i, 3000), (i % 12 + (isFree ? 4 : 0)) % 12);
            Check.same("20: vehicle " + i, x.keeperByGoing(i, 2999), i % 12);
            Check.same("34: vehicle " + i, x.plateOn(i, 3000), i < 10 ? 30 + i : 15 + i);
        }
        for (int plate = 0; plate < 40; plate++) {
            Check.same("31: plate " + plate, x.plateState(plate), plate < 25 ? 'x' : 'v');
        }
        Check.holds("43: all", x.roadShare() == 1.0f);
        Check.holds("44: 14 of 5 and one of 1", x.meanTransfers() == 71.0 / 15.0);
        Check.holds("45: sound", x.isSound());
        Check.fails("2: full", Check.STATE, x::addKeeper);
        Check.fails("3: full", Check.ARGUMENT, () -> x.pass(1));
        Check.fails("5: full", Check.STATE, () -> x.register(0, 'c'));
        Check.fails("6: full", Check.STATE, () -> x.bringIn(0, 'c'));
        Check.fails("13: full", Check.STATE, () -> x.sell(0, 0, 1, 0));
        Check.fails("14: full", Check.STATE, () -> x.buy(0, 0, 0));
        Check.fails("28: full", Check.STATE, () -> x.keepPlate(0));
        int sum = 0;
        for (int keeper = 0; keeper < 12; keeper++) {
            int owed = x.owes(keeper);
            Check.same("39: keeper " + keeper, x.owesByDays(keeper), owed);
            sum += owed;
        }
        // Four cars, motorcycles and lorries each, but that there are 15 vehicles: three historic.
        Check.same("38: of all keepers", sum, 34 * (4 * 60 + 4 * 20 + 4 * 150));
    }
}
