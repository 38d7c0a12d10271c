/** Promises 13 to 23. */
public final class NoticesTest {
    private NoticesTest() {
    }

    public static void main(String[] args) {
        sellExceptions();
        buyExceptions();
        noticeLimit();
        fitByDays();
        fitOnlyTheRight();
        lowestPair();
        chain();
        lastTransferDay();
        blocked();
        withdraw();
        statesAndPartners();
        keepersByDay();
        keptBy();
        Check.end();
    }

    private static void sellExceptions() {
        PlateRegister x = Check.withKeepers(2);
        x.register(0, 'c');
        Check.fails("13: seller", Check.INDEX, () -> x.sell(2, 0, 1, 0));
        Check.fails("13: seller -1", Check.INDEX, () -> x.sell(-1, 0, 1, 9));
        Check.fails("13: buyer", Check.INDEX, () -> x.sell(0, 0, 2, 0));
        Check.fails("13: vehicle", Check.INDEX, () -> x.sell(0, 1, 1, 0));
        Check.fails("13: index before day", Check.INDEX, () -> x.sell(0, 1, 0, 5));
        Check.fails("13: late", Check.ARGUMENT, () -> x.sell(0, 0, 1, 1));
        Check.fails("13: early", Check.ARGUMENT, () -> x.sell(0, 0, 1, -1));
        Check.fails("13: day before same", Check.ARGUMENT, () -> x.sell(0, 0, 0, 1));
        Check.fails("13: same", Check.UNSUPPORTED, () -> x.sell(1, 0, 1, 0));
        Check.same("13: nothing has come", x.openNotices(0), 0);
        Check.same("13: the first", x.sell(1, 0, 0, 0), 0);
        Check.same("13: a seller who is not keeper may tell", x.stateOf(0), 'o');
    }

    private static void buyExceptions() {
        PlateRegister x = Check.withKeepers(2);
        x.register(0, 'c');
        Check.fails("14: buyer", Check.INDEX, () -> x.buy(2, 0, 0));
        Check.fails("14: vehicle", Check.INDEX, () -> x.buy(0, 1, 3));
        Check.fails("14: late", Check.ARGUMENT, () -> x.buy(0, 0, 1));
        Check.fails("14: early", Check.ARGUMENT, () -> x.buy(0, 0, -1));
        Check.same("14: the keeper may tell", x.buy(0, 0, 0), 0);
        Check.same("14: the next", x.buy(1, 0, 0), 1);
        Check.same("14: open", x.openNotices(0), 2);
    }

    private static void noticeLimit() {
        PlateRegister x = Check.withKeepers(2);
        x.register(0, 'c');
        for (int i = 0; i < 119; i++) {
            Check.same("14: notice", x.buy(0, 0, 0), i);
        }
        Check.same("13: the last", x.sell(1, 0, 0, 0), 119);
        Check.fails("14: one more", Check.STATE, () -> x.buy(0, 0, 0));
        Check.fails("13: one more", Check.STATE, () -> x.sell(0, 0, 1, 0));
        Check.fails("13: same before room", Check.UNSUPPORTED, () -> x.sell(0, 0, 0, 0));
        Check.fails("14: day before room", Check.ARGUMENT, () -> x.buy(0, 0, 1));
        Check.same("18: all are open", x.openNotices(0), 120);
        x.withdraw(0);
        Check.fails("14: withdrawn ones count", Check.STATE, () -> x.buy(0, 0, 0));
        Check.same("16: the last", x.stateOf(119), 'o');
        Check.fails("16: notice 120", Check.NO_ELEMENT, () -> x.stateOf(120));
    }

    private static void fitByDays() {
        for (int apart = -9; apart <= 9; apart++) {
            PlateRegister x = Check.withKeepers(2);
            x.register(0, 'c');
            x.pass(30);
            x.sell(0, 0, 1, 15);
            x.buy(1, 0, 15 + apart);
            boolean fits = apart >= -7 && apart <= 7;
            Check.same("14: apart " + apart, x.transfers(0), fits ? 2 : 1);
            Check.same("14: keeper " + apart, x.keeperOn(0, 30), fits ? 1 : 0);
            Check.same("18: open " + apart, x.openNotices(0), fits ? 0 : 2);
            if (fits) {
                Check.same("22: day of the seller", x.transferDay(0, 1), 15);
            }
        }
    }

    private static void fitOnlyTheRight() {
        PlateRegister x = Check.withKeepers(3);
        x.register(0, 'c');
        x.register(0, 'c');
        x.buy(1, 1, 0);
        x.sell(0, 0, 1, 0);
        Check.same("13: another vehicle", x.transfers(0) + x.transfers(1), 2);
        x.buy(2, 0, 0);
        Check.same("13: another buyer", x.transfers(0), 1);
        x.sell(2, 1, 1, 0);
        Check.same("13: another seller", x.transfers(1), 1);
        x.sell(1, 0, 2, 0);
        Check.same("13: a later seller", x.transfers(0), 1);
        x.buy(1, 0, 0);
        Check.same("14: both", x.transfers(0), 3);
        Check.same("14: last keeper", x.keeperOn(0, 0), 2);
        Check.same("14: the other one", x.transfers(1), 1);
    }

    private static void lowestPair() {
        PlateRegister x = Check.withKeepers(3);
        x.register(0, 'c');
        x.pass(20);
        x.addLien(0, 'a', 1);
        x.buy(2, 0, 9);
        x.buy(1, 0, 18);
        x.buy(1, 0, 12);
        x.buy(1, 0, 10);
        x.sell(0, 0, 1, 10);
        x.sell(0, 0, 2, 10);
        x.sell(0, 0, 1, 11);
        x.payLien(0, 'a', 1);
        Check.same("17: lowest seller and lowest fitting buyer", x.partnerOf(4), 2);
        Check.same("17: and back", x.partnerOf(2), 4);
        Check.same("21: one only", x.transfers(0), 2);
        Check.same("19: to the first buyer", x.keeperOn(0, 20), 1);
        Check.same("18: the others wait", x.openNotices(0), 5);
        Check.same("16: not the higher one", x.stateOf(3), 'o');
    }

    private static void chain() {
        PlateRegister x = Check.withKeepers(4);
        x.register(0, 'c');
        x.pass(9);
        x.sell(2, 0, 3, 9);
        x.buy(3, 0, 9);
        x.sell(1, 0, 2, 8);
        x.buy(2, 0, 8);
        x.buy(1, 0, 7);
        Check.same("13: none yet", x.transfers(0), 1);
        Check.same("13: the missing one", x.sell(0, 0, 1, 7), 5);
        Check.same("13: all three", x.transfers(0), 4);
        for (int i = 0; i < 3; i++) {
            Check.same("22: day", x.transferDay(0, i + 1), 7 + i);
            Check.same("19: keeper", x.keeperOn(0, 7 + i), i + 1);
            Check.same("20: keeper", x.keeperByGoing(0, 7 + i), i + 1);
        }
    }

    private static void lastTransferDay() {
        PlateRegister x = Check.withKeepers(3);
        x.pass(10);
        x.register(0, 'c');
        x.pass(10);
        x.sell(0, 0, 1, 9);
        x.buy(1, 0, 9);
        Check.same("13: before it came", x.transfers(0), 1);
        x.sell(0, 0, 1, 10);
        Check.same("13: on the day it came, with an earlier buyer's day", x.transfers(0), 2);
        Check.same("22: day", x.transferDay(0, 1), 10);
        Check.same("17: partner", x.partnerOf(2), 1);
        x.sell(1, 0, 2, 9);
        x.buy(2, 0, 10);
        Check.same("13: before the last transfer", x.transfers(0), 2);
        x.sell(1, 0, 2, 10);
        Check.same("13: on the same day", x.transfers(0), 3);
        Check.same("19: the last of the day", x.keeperOn(0, 10), 2);
        Check.same("20: the last of the day", x.keeperByGoing(0, 10), 2);
    }

    private static void blocked() {
        PlateRegister x = Check.withKeepers(2);
        x.register(0, 'c');
        x.register(0, 'c');
        x.addLien(0, 'a', 3);
        x.addLien(0, 'b', 4);
        x.sell(0, 0, 1, 0);
        x.buy(1, 0, 0);
        Check.same("14: blocked", x.transfers(0), 1);
        x.payLien(0, 'a', 2);
        Check.same("25: a rest is left", x.transfers(0), 1);
        x.payLien(0, 'a', 1);
        Check.same("25: the other lien is left", x.transfers(0), 1);
        x.payLien(0, 'b', 4);
        Check.same("25: passes now", x.transfers(0), 2);
        x.scrap(1);
        x.sell(0, 1, 1, 0);
        x.buy(1, 1, 0);
        Check.same("14: scrapped", x.transfers(1), 1);
        Check.same("18: open", x.openNotices(1), 2);
    }

    private static void withdraw() {
        PlateRegister x = Check.withKeepers(2);
        x.register(0, 'c');
        x.register(0, 'c');
        x.sell(0, 0, 1, 0);
        x.sell(0, 1, 1, 0);
        x.buy(0, 0, 0);
        Check.same("15: of all vehicles", x.withdraw(0), 2);
        Check.same("16: state", x.stateOf(0), 'w');
        Check.same("18: of this vehicle", x.openNotices(0), 1);
        x.buy(1, 0, 0);
        Check.same("15: does not pass", x.transfers(0), 1);
        Check.fails("15: twice", Check.STATE, () -> x.withdraw(0));
        x.buy(1, 1, 0);
        Check.fails("15: used", Check.STATE, () -> x.withdraw(1));
        Check.fails("15: no notice", Check.NO_ELEMENT, () -> x.withdraw(5));
        Check.fails("15: notice -1", Check.NO_ELEMENT, () -> x.withdraw(-1));
        Check.same("15: one more", x.withdraw(2), 1);
        Check.same("15: the last", x.withdraw(3), 0);
    }

    private static void statesAndPartners() {
        PlateRegister x = Check.withKeepers(2);
        x.register(0, 'c');
        x.buy(1, 0, 0);
        Check.same("16: open", x.stateOf(0), 'o');
        Check.fails("17: open", Check.STATE, () -> x.partnerOf(0));
        x.sell(0, 0, 1, 0);
        Check.same("16: used", x.stateOf(0), 'u');
        Check.same("16: both", x.stateOf(1), 'u');
        Check.same("17: partner", x.partnerOf(0), 1);
        Check.same("17: its partner", x.partnerOf(1), 0);
        x.buy(1, 0, 0);
        x.withdraw(2);
        Check.fails("17: withdrawn", Check.STATE, () -> x.partnerOf(2));
        for (int notice : new int[] {-1, 3, 120, Integer.MIN_VALUE, Integer.MAX_VALUE}) {
            Check.fails("16: " + notice, Check.NO_ELEMENT, () -> x.stateOf(notice));
            Check.fails("17: " + notice, Check.NO_ELEMENT, () -> x.partnerOf(notice));
        }
        Check.fails("18: vehicle", Check.INDEX, () -> x.openNotices(1));
        Check.fails("18: vehicle -1", Check.INDEX, () -> x.openNotices(-1));
    }

    private static void keepersByDay() {
        PlateRegister x = Check.withKeepers(4);
        x.pass(5);
        x.register(3, 'c');
        x.pass(25);
        int[] days = {8, 8, 12, 13, 20};
        int[] buyers = {0, 1, 2, 3, 0};
        int seller = 3;
        for (int i = 0; i < days.length; i++) {
            x.sell(seller, 0, buyers[i], days[i]);
            x.buy(buyers[i], 0, days[i]);
            seller = buyers[i];
        }
        Check.same("21: transfers", x.transfers(0), 6);
        for (int day = 5; day <= 30; day++) {
            int due = day < 8 ? 3 : day < 12 ? 1 : day < 13 ? 2 : day < 20 ? 3 : 0;
            Check.same("19: day " + day, x.keeperOn(0, day), due);
            Check.same("20: day " + day, x.keeperByGoing(0, day), due);
        }
        Check.fails("19: day 4", Check.NO_ELEMENT, () -> x.keeperOn(0, 4));
        Check.fails("20: day 4", Check.NO_ELEMENT, () -> x.keeperByGoing(0, 4));
        for (int day : new int[] {-1, 31, Integer.MIN_VALUE, Integer.MAX_VALUE}) {
            Check.fails("19: day " + day, Check.ARGUMENT, () -> x.keeperOn(0, day));
            Check.fails("20: day " + day, Check.ARGUMENT, () -> x.keeperByGoing(0, day));
            Check.fails("19: vehicle first", Check.INDEX, () -> x.keeperOn(1, day));
            Check.fails("20: vehicle first", Check.INDEX, () -> x.keeperByGoing(1, day));
        }
        Check.same("22: first", x.transferDay(0, 0), 5);
        Check.same("22: last", x.transferDay(0, 5), 20);
        Check.fails("22: behind the last", Check.INDEX, () -> x.transferDay(0, 6));
        Check.fails("22: index -1", Check.INDEX, () -> x.transferDay(0, -1));
        Check.fails("22: vehicle", Check.INDEX, () -> x.transferDay(1, 0));
        Check.fails("21: vehicle", Check.INDEX, () -> x.transfers(1));
    }

    private static void keptBy() {
        PlateRegister x = Check.withKeepers(2);
        x.register(0, 'c');
        x.bringIn(0, 'c');
        x.register(1, 'c');
        Check.same("23: two", x.keptBy(0), 2);
        x.sell(0, 0, 1, 0);
        x.buy(1, 0, 0);
        Check.same("23: one", x.keptBy(0), 1);
        Check.same("23: and two", x.keptBy(1), 2);
        x.scrap(2);
        Check.same("23: without the scrapped", x.keptBy(1), 1);
        Check.fails("23: keeper 2", Check.INDEX, () -> x.keptBy(2));
        Check.fails("23: keeper -1", Check.INDEX, () -> x.keptBy(-1));
    }
}
