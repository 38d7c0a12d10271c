/** Registers that tests begin with, some of them at a limit of the document. */
final class States {
    private States() {
    }

    /**
     * Day 100 and three keepers. Vehicles: 0 is off the road and has plate 5; 1 is blocked and has
     * plate 1; 2 was brought in; 3 is keeper 2's by notices 3 and 4, and has plate 2; 4 is scrapped
     * (plate 3); 5 was brought in and is blocked; 6 was brought in and is scrapped; 7 came on day
     * 99 and has plate 4. Plate 0 is kept for keeper 0. Notices 0 and 1 are open, 2 is withdrawn.
     */
    static PlateRegister office() {
        PlateRegister x = Check.withKeepers(3);
        x.register(0, 'c');
        x.register(0, 'm');
        x.bringIn(0, 'l');
        x.register(1, 'h');
        x.register(0, 'c');
        x.bringIn(0, 'c');
        x.bringIn(0, 'c');
        x.pass(99);
        x.register(0, 'l');
        x.keepPlate(0);
        x.addLien(1, 'b', 50);
        x.addLien(5, 'f', 9);
        x.scrap(4);
        x.scrap(6);
        x.sell(0, 1, 2, 50);
        x.buy(2, 0, 90);
        x.buy(1, 3, 99);
        x.withdraw(2);
        x.sell(1, 3, 2, 97);
        x.buy(2, 3, 99);
        x.pay(0, 30);
        x.setOnRoad(0, false);
        x.pass(1);
        return x;
    }

    static PlateRegister fullOfKeepers() {
        return Check.withKeepers(12);
    }

    /** 15 vehicles of keeper 0, of which 14 have the plates 0 to 13; the last one was brought in. */
    static PlateRegister fullOfVehicles() {
        PlateRegister x = Check.withKeepers(1);
        for (int i = 0; i < 14; i++) {
            x.register(0, 'c');
        }
        x.bringIn(0, 'c');
        return x;
    }

    /** Vehicle 0 has plate 39, the plates before it are kept; vehicle 1 was brought in. */
    static PlateRegister fullOfPlates() {
        PlateRegister x = Check.withKeepers(1);
        x.register(0, 'c');
        for (int i = 1; i < 40; i++) {
            x.keepPlate(0);
        }
        x.bringIn(0, 'c');
        return x;
    }

    /** 120 open notices of keeper 1, who would buy the one vehicle. */
    static PlateRegister fullOfNotices() {
        PlateRegister x = Check.withKeepers(2);
        x.register(0, 'c');
        for (int i = 0; i < 120; i++) {
            x.buy(1, 0, 0);
        }
        return x;
    }

    /** A register of one vehicle on a day. */
    static PlateRegister onDay(int day) {
        PlateRegister x = Check.withKeepers(1);
        x.register(0, 'c');
        Check.passTo(x, day);
        return x;
    }
}
