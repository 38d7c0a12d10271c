import java.util.TreeSet;

/**
 * All that a register answers, as a text: two registers with the same past have the same one. It
 * keeps to calls that only ask, and to the 512 calls for which an object is good.
 */
final class Snapshot {
    private static final int MOST_ASKS = 340;

    private final PlateRegister x;
    private final StringBuilder text = new StringBuilder();
    private int asks;

    private Snapshot(PlateRegister register) {
        x = register;
    }

    static String of(PlateRegister register) {
        Snapshot made = new Snapshot(register);
        made.askAll();
        Check.holds("a snapshot asks little: " + made.asks, made.asks <= MOST_ASKS);
        return made.text.toString();
    }

    private void askAll() {
        ask("day", () -> x.day());
        ask("vehicles", () -> x.vehicles());
        ask("plates", () -> x.plates());
        ask("collected", () -> x.collected());
        ask("mostOwing", () -> x.mostOwing());
        ask("roadShare", () -> Float.floatToIntBits(x.roadShare()));
        ask("meanTransfers", () -> Double.doubleToLongBits(x.meanTransfers()));
        ask("isSound", () -> x.isSound() ? 1 : 0);
        askKeepers();
        for (int i = 0; i < x.vehicles(); i++) {
            askVehicle(i);
        }
        for (int i = 0; i < x.plates(); i++) {
            askPlate(i);
        }
        askNotices();
    }

    /** Returns whether there was an answer and no exception. */
    private boolean ask(String what, Check.Call call) {
        asks++;
        text.append(what).append(": ");
        try {
            text.append(call.answer()).append('\n');
            return true;
        } catch (RuntimeException e) {
            text.append(e.getClass().getName()).append('\n');
            return false;
        }
    }

    private void askKeepers() {
        boolean isThere = true;
        for (int i = 0; isThere; i++) {
            int keeper = i;
            isThere = ask("keptBy " + i, () -> x.keptBy(keeper));
            if (isThere) {
                ask("owes " + i, () -> x.owes(keeper));
            }
        }
    }

    private void askVehicle(int vehicle) {
        String name = " of vehicle " + vehicle;
        ask("kindOf" + name, () -> x.kindOf(vehicle));
        ask("isBlocked" + name, () -> x.isBlocked(vehicle) ? 1 : 0);
        ask("openNotices" + name, () -> x.openNotices(vehicle));
        ask("transfers" + name, () -> x.transfers(vehicle));
        ask("last transferDay" + name, () -> x.transferDay(vehicle, x.transfers(vehicle) - 1));
        for (char lender = 'a'; lender <= 'f'; lender++) {
            char letter = lender;
            ask("lienOf " + lender + name, () -> x.lienOf(vehicle, letter));
        }
        TreeSet<Integer> days = new TreeSet<>();
        days.add(x.day());
        days.add(Math.max(0, x.day() - 1));
        for (int day : days) {
            ask("isOnRoad " + day + name, () -> x.isOnRoad(vehicle, day) ? 1 : 0);
            ask("plateOn " + day + name, () -> x.plateOn(vehicle, day));
            ask("keeperOn " + day + name, () -> x.keeperOn(vehicle, day));
        }
        ask("due" + name, () -> x.due(vehicle, x.day() / 90));
    }

    private void askPlate(int plate) {
        ask("plateState " + plate, () -> x.plateState(plate));
        ask("daysKept " + plate, () -> x.daysKept(plate));
        ask("vehicleWith " + plate, () -> x.vehicleWith(plate, x.day()));
    }

    private void askNotices() {
        boolean isThere = true;
        for (int i = 0; isThere; i++) {
            int notice = i;
            isThere = ask("stateOf " + i, () -> x.stateOf(notice));
            if (isThere) {
                ask("partnerOf " + i, () -> x.partnerOf(notice));
            }
        }
    }
}
