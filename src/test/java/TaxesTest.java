/** Promises 37 to 45. */
public final class TaxesTest {
    private TaxesTest() {
    }

    public static void main(String[] args) {
        taxOfKinds();
        quarterEdges();
        offAndOnAgain();
        presentDay();
        keeperOfFirstRoadDay();
        laterNoticeMovesTax();
        pay();
        mostOwing();
        roadShare();
        meanTransfers();
        isSound();
        Check.end();
    }

    private static void owes(String what, PlateRegister x, int keeper, int due) {
        Check.same("38: " + what, x.owes(keeper), due);
        Check.same("39: " + what, x.owesByDays(keeper), due);
    }

    private static void taxOfKinds() {
        char[] kinds = {'c', 'm', 'l', 'h'};
        int[] taxes = {60, 20, 150, 0};
        for (int i = 0; i < 4; i++) {
            PlateRegister x = Check.withKeepers(1);
            x.register(0, kinds[i]);
            Check.same("37: tax", x.due(0, 0), taxes[i]);
            owes("tax", x, 0, taxes[i]);
            Check.passTo(x, 3000);
            Check.same("37: last tax", x.due(0, 33), taxes[i]);
            owes("34 quarters", x, 0, 34 * taxes[i]);
        }
    }

    private static void quarterEdges() {
        PlateRegister x = Check.withKeepers(1);
        x.register(0, 'c');
        Check.passTo(x, 89);
        Check.fails("37: has not begun", Check.ARGUMENT, () -> x.due(0, 1));
        owes("day 89", x, 0, 60);
        x.pass(1);
        Check.same("37: begins", x.due(0, 1), 60);
        owes("day 90", x, 0, 120);
        for (int quarter : new int[] {-1, 2, 34, Integer.MIN_VALUE, Integer.MAX_VALUE}) {
            Check.fails("37: quarter", Check.ARGUMENT, () -> x.due(0, quarter));
            Check.fails("37: vehicle first", Check.INDEX, () -> x.due(1, quarter));
        }
        Check.fails("38: keeper", Check.INDEX, () -> x.owes(1));
        Check.fails("38: keeper -1", Check.INDEX, () -> x.owes(-1));
        Check.fails("39: keeper", Check.INDEX, () -> x.owesByDays(1));
        Check.fails("39: keeper -1", Check.INDEX, () -> x.owesByDays(-1));
    }

    private static void offAndOnAgain() {
        PlateRegister x = Check.withKeepers(1);
        x.register(0, 'l');
        Check.passTo(x, 89);
        x.setOnRoad(0, false);
        Check.passTo(x, 269);
        Check.same("37: on the road in 0", x.due(0, 0), 150);
        Check.same("37: off the road in 1", x.due(0, 1), 0);
        x.setOnRoad(0, true);
        x.pass(1);
        x.setOnRoad(0, false);
        x.pass(90);
        Check.same("37: last day of 2", x.due(0, 2), 150);
        Check.same("37: put off on the first day of 3", x.due(0, 3), 0);
        Check.same("37: none in 4", x.due(0, 4), 0);
        owes("two quarters", x, 0, 300);
        x.scrap(0);
        owes("scrapped", x, 0, 300);
    }

    private static void presentDay() {
        PlateRegister x = Check.withKeepers(1);
        x.pass(90);
        x.register(0, 'm');
        Check.same("37: before it came", x.due(0, 0), 0);
        Check.same("37: now", x.due(0, 1), 20);
        x.setOnRoad(0, false);
        Check.same("37: not now", x.due(0, 1), 0);
        owes("not now", x, 0, 0);
        x.setOnRoad(0, true);
        x.pass(1);
        x.setOnRoad(0, false);
        Check.same("37: at the end of a day", x.due(0, 1), 20);
        owes("at the end of a day", x, 0, 20);
        x.bringIn(0, 'c');
        Check.same("37: without plate", x.due(1, 1), 0);
        x.admit(1);
        Check.same("37: admitted", x.due(1, 1), 60);
    }

    private static void keeperOfFirstRoadDay() {
        PlateRegister x = Check.withKeepers(3);
        x.register(0, 'c');
        x.pass(10);
        x.sell(0, 0, 1, 10);
        x.buy(1, 0, 10);
        Check.passTo(x, 95);
        owes("seller of quarter 0", x, 0, 60);
        owes("buyer from quarter 1 on", x, 1, 60);
        x.setOnRoad(0, false);
        Check.passTo(x, 180);
        x.sell(1, 0, 2, 180);
        x.buy(2, 0, 180);
        Check.passTo(x, 185);
        owes("off the road", x, 2, 0);
        x.setOnRoad(0, true);
        owes("on again", x, 2, 60);
        owes("as before", x, 1, 60);
    }

    private static void laterNoticeMovesTax() {
        PlateRegister x = Check.withKeepers(2);
        x.register(0, 'c');
        x.pass(95);
        owes("both quarters", x, 0, 120);
        x.sell(0, 0, 1, 90);
        x.buy(1, 0, 95);
        owes("quarter 0", x, 0, 60);
        owes("quarter 1", x, 1, 60);
        PlateRegister y = Check.withKeepers(2);
        y.register(0, 'c');
        y.pass(95);
        y.sell(0, 0, 1, 91);
        y.buy(1, 0, 95);
        owes("a day later", y, 0, 120);
        owes("nothing yet", y, 1, 0);
    }

    private static void pay() {
        PlateRegister x = Check.withKeepers(2);
        x.register(0, 'c');
        Check.same("40: a part", x.pay(0, 59), 1);
        Check.same("40: the rest", x.pay(0, 1), 0);
        Check.same("40: too much", x.pay(0, 9999), -9999);
        Check.same("40: another", x.pay(1, 1), -1);
        owes("less than 0", x, 0, -9999);
        Check.same("42: collected", x.collected(), 10060);
        for (int amount : new int[] {0, -1, 10000, Integer.MIN_VALUE, Integer.MAX_VALUE}) {
            Check.fails("40: amount", Check.ARGUMENT, () -> x.pay(0, amount));
            Check.fails("40: keeper first", Check.INDEX, () -> x.pay(2, amount));
        }
        Check.fails("40: keeper -1", Check.INDEX, () -> x.pay(-1, 5));
        Check.same("42: nothing was paid", x.collected(), 10060);
        x.addLien(0, 'a', 5);
        x.payLien(0, 'a', 5);
        Check.same("42: liens are no taxes", x.collected(), 10060);
    }

    private static void mostOwing() {
        PlateRegister x = Check.withKeepers(4);
        Check.fails("41: nobody", Check.NO_ELEMENT, x::mostOwing);
        x.register(2, 'm');
        Check.same("41: one", x.mostOwing(), 2);
        x.register(3, 'c');
        Check.same("41: the most", x.mostOwing(), 3);
        x.register(1, 'c');
        Check.same("41: the lowest number", x.mostOwing(), 1);
        x.pay(1, 1);
        Check.same("41: less now", x.mostOwing(), 3);
        x.pay(3, 60);
        x.pay(2, 20);
        x.pay(1, 58);
        Check.same("41: a last one", x.mostOwing(), 1);
        x.pay(1, 1);
        Check.fails("41: all is paid", Check.NO_ELEMENT, x::mostOwing);
        x.register(0, 'm');
        x.register(3, 'm');
        Check.same("41: the first keeper", x.mostOwing(), 0);
    }

    private static void roadShare() {
        PlateRegister x = Check.withKeepers(1);
        Check.fails("43: no vehicles", Check.ARITHMETIC, () -> (long) x.roadShare());
        x.bringIn(0, 'c');
        Check.holds("43: none", x.roadShare() == 0f);
        x.register(0, 'c');
        x.register(0, 'c');
        Check.holds("43: two of three", x.roadShare() == 2f / 3f);
        x.scrap(2);
        Check.holds("43: scrapped ones count", x.roadShare() == 1f / 3f);
        x.setOnRoad(1, false);
        Check.holds("43: off the road", x.roadShare() == 0f);
        x.admit(0);
        x.setOnRoad(1, true);
        x.register(0, 'h');
        Check.holds("43: three of four", x.roadShare() == 0.75f);
    }

    private static void meanTransfers() {
        PlateRegister x = Check.withKeepers(2);
        Check.fails("44: no vehicles", Check.ARITHMETIC, () -> (long) x.meanTransfers());
        x.register(0, 'c');
        Check.holds("44: one", x.meanTransfers() == 1.0);
        x.bringIn(0, 'c');
        x.register(0, 'c');
        x.sell(0, 1, 1, 0);
        x.buy(1, 1, 0);
        Check.holds("44: four of three", x.meanTransfers() == 4.0 / 3.0);
        x.scrap(0);
        Check.holds("44: scrapped ones count", x.meanTransfers() == 4.0 / 3.0);
    }

    private static void isSound() {
        PlateRegister x = Check.withKeepers(3);
        for (int i = 0; i < 15; i++) {
            x.register(i % 3, i % 2 == 0 ? 'c' : 'l');
            x.pass(40);
            if (i % 4 == 1) {
                x.setOnRoad(i, false);
            }
            if (i >= 3) {
                x.swapPlates(i, i - 3);
                x.keepPlate(i);
            }
            Check.holds("45: sound", x.isSound());
        }
        x.pay(0, 77);
        x.scrap(3);
        Check.holds("45: sound at last", x.isSound());
    }
}
