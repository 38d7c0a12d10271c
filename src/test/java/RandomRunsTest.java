/**
 * Promises 1 to 45: long runs of mixed calls, each answer or exception beside that of
 * {@link PlainModel}. The runs are the same each time.
 */
public final class RandomRunsTest {
    private static final int RUNS = 1500;
    private static final int CALLS = 512;
    private static final int[] ODD = {-1, -2, 99, 120, 10000, Integer.MIN_VALUE, Integer.MAX_VALUE};

    private long seed;
    private int run;
    private int used;
    private int answered;
    private int failedCalls;

    private PlateRegister x;
    private PlainModel m;

    public static void main(String[] args) {
        RandomRunsTest test = new RandomRunsTest();
        for (int run = 0; run < RUNS; run++) {
            test.run(run);
        }
        Check.holds("the runs use pairs of notices: " + test.used, test.used > RUNS);
        Check.holds("most calls answer", test.answered > test.failedCalls);
        Check.end();
    }

    private void run(int number) {
        run = number;
        seed = number * 7919L + 17;
        x = new PlateRegister();
        m = new PlainModel();
        int style = number % 6;
        int keepers = style == 0 ? 2 : 1 + next(12);
        for (int i = 0; i < keepers; i++) {
            compare("addKeeper()", () -> x.addKeeper(), () -> m.addKeeper());
        }
        for (int call = keepers; call < CALLS; call++) {
            step(style);
        }
        used += m.vehicles() == 0 ? 0 : transfersOfAll() - m.vehicles();
    }

    private int transfersOfAll() {
        int sum = 0;
        for (int i = 0; i < m.vehicles(); i++) {
            sum += m.transfers(i);
        }
        return sum;
    }

    private int next(int bound) {
        seed = seed * 6364136223846793005L + 1442695040888963407L;
        return (int) ((seed >>> 33) % bound);
    }

    /** A number below a count mostly, seldom the count itself or something far off. */
    private int below(int count) {
        int chance = next(40);
        if (chance == 0) {
            return ODD[next(ODD.length)];
        }
        return chance == 1 || count == 0 ? count : next(count);
    }

    private int keeper() {
        return below(style0() ? 2 : 4);
    }

    private boolean style0() {
        return run % 6 == 0;
    }

    private int vehicle() {
        return below(run % 2 == 0 ? Math.min(2, m.vehicles()) : m.vehicles());
    }

    private int plate() {
        return below(m.plates());
    }

    private int someDay() {
        return next(3) == 0 ? below(m.day() + 1) : Math.max(0, m.day() - next(8)) + (next(30) == 0 ? 9 : 0);
    }

    private char kind() {
        return "cmlhcmlhcmlhx".charAt(next(13));
    }

    private char lender() {
        return next(20) == 0 ? (char) (96 + next(9)) : (char) ('a' + next(2));
    }

    private int amount(int most) {
        return next(12) == 0 ? below(10000) : 1 + next(most);
    }

    private int days(int style) {
        int most = style == 1 ? 99 : style == 2 ? 3 : style == 3 ? 40 : 12;
        return next(25) == 0 ? below(101) : 1 + next(most);
    }

    private void step(int style) {
        int choice = next(60);
        if (choice < 20) {
            act(choice, style);
        } else if (choice < 40) {
            ask(choice - 20);
        } else if (choice < 56) {
            trade(choice - 40);
        } else {
            askSums();
        }
    }

    private void act(int choice, int style) {
        int v = vehicle();
        int k = keeper();
        char c = kind();
        switch (choice) {
            case 0, 1, 2, 3, 4 -> {
                int d = days(style);
                compare("pass(" + d + ")", () -> x.pass(d), () -> m.pass(d));
            }
            case 5, 6 -> compare("register(" + k + "," + c + ")", () -> x.register(k, c), () -> m.register(k, c));
            case 7 -> compare("bringIn(" + k + "," + c + ")", () -> x.bringIn(k, c), () -> m.bringIn(k, c));
            case 8 -> compare("admit(" + v + ")", () -> x.admit(v), () -> m.admit(v));
            case 9, 10, 11, 12 -> {
                boolean on = next(2) == 0;
                compare("setOnRoad(" + v + "," + on + ")", () -> bit(x.setOnRoad(v, on)), () -> bit(m.setOnRoad(v, on)));
            }
            case 13, 14 -> compare("keepPlate(" + v + ")", () -> x.keepPlate(v), () -> m.keepPlate(v));
            case 15, 16 -> {
                int p = plate();
                compare("putOn(" + p + "," + v + ")", () -> x.putOn(p, v), () -> m.putOn(p, v));
            }
            case 17, 18 -> {
                int o = vehicle();
                compare("swapPlates(" + v + "," + o + ")", () -> x.swapPlates(v, o), () -> m.swapPlates(v, o));
            }
            default -> {
                if (next(4) == 0) {
                    compare("scrap(" + v + ")", () -> x.scrap(v), () -> m.scrap(v));
                } else if (next(4) == 0) {
                    compare("addKeeper()", () -> x.addKeeper(), () -> m.addKeeper());
                }
            }
        }
    }

    private void trade(int choice) {
        int v = vehicle();
        int k = keeper();
        char c = lender();
        int d = someDay();
        switch (choice) {
            case 0, 1, 2, 3, 4 -> {
                int s = next(2) == 0 && v >= 0 && v < m.vehicles() ? m.keeperOn(v, m.day()) : keeper();
                compare("sell(" + s + "," + v + "," + k + "," + d + ")", () -> x.sell(s, v, k, d), () -> m.sell(s, v, k, d));
            }
            case 5, 6, 7, 8, 9 ->
                compare("buy(" + k + "," + v + "," + d + ")", () -> x.buy(k, v, d), () -> m.buy(k, v, d));
            case 10 -> {
                int n = below(10);
                compare("withdraw(" + n + ")", () -> x.withdraw(n), () -> m.withdraw(n));
            }
            case 11 -> {
                int a = amount(9);
                compare("addLien(" + v + "," + c + "," + a + ")", () -> x.addLien(v, c, a), () -> m.addLien(v, c, a));
            }
            case 12, 13, 14 -> {
                int a = next(2) == 0 ? leftOr(v, c, 1) : amount(9);
                compare("payLien(" + v + "," + c + "," + a + ")", () -> x.payLien(v, c, a), () -> m.payLien(v, c, a));
            }
            default -> {
                int a = amount(300);
                compare("pay(" + k + "," + a + ")", () -> x.pay(k, a), () -> m.pay(k, a));
            }
        }
    }

    private int leftOr(int vehicle, char lender, int otherwise) {
        try {
            return m.lienOf(vehicle, lender);
        } catch (RuntimeException e) {
            return otherwise;
        }
    }

    private void ask(int choice) {
        int v = vehicle();
        int p = plate();
        int d = below(m.day() + 1);
        int n = below(120);
        char c = lender();
        switch (choice) {
            case 0 -> compare("isOnRoad(" + v + "," + d + ")", () -> bit(x.isOnRoad(v, d)), () -> bit(m.isOnRoad(v, d)));
            case 1 -> compare("kindOf(" + v + ")", () -> x.kindOf(v), () -> m.kindOf(v));
            case 2 -> compare("vehicles()", () -> x.vehicles(), () -> m.vehicles());
            case 3 -> compare("stateOf(" + n + ")", () -> x.stateOf(n), () -> m.stateOf(n));
            case 4 -> compare("partnerOf(" + n + ")", () -> x.partnerOf(n), () -> m.partnerOf(n));
            case 5 -> compare("openNotices(" + v + ")", () -> x.openNotices(v), () -> m.openNotices(v));
            case 6, 7 -> compare("keeperOn(" + v + "," + d + ")", () -> x.keeperOn(v, d), () -> m.keeperOn(v, d));
            case 8 -> compare("keeperByGoing(" + v + "," + d + ")", () -> x.keeperByGoing(v, d), () -> m.keeperOn(v, d));
            case 9 -> compare("transfers(" + v + ")", () -> x.transfers(v), () -> m.transfers(v));
            case 10 -> {
                int i = below(6);
                compare("transferDay(" + v + "," + i + ")", () -> x.transferDay(v, i), () -> m.transferDay(v, i));
            }
            case 11 -> compare("lienOf(" + v + "," + c + ")", () -> x.lienOf(v, c), () -> m.lienOf(v, c));
            case 12 -> compare("isBlocked(" + v + ")", () -> bit(x.isBlocked(v)), () -> bit(m.isBlocked(v)));
            case 13 -> compare("plateState(" + p + ")", () -> x.plateState(p), () -> m.plateState(p));
            case 14 -> compare("daysKept(" + p + ")", () -> x.daysKept(p), () -> m.daysKept(p));
            case 15 -> compare("plates()", () -> x.plates(), () -> m.plates());
            case 16 -> compare("plateOn(" + v + "," + d + ")", () -> x.plateOn(v, d), () -> m.plateOn(v, d));
            case 17 -> compare("vehicleWith(" + p + "," + d + ")", () -> x.vehicleWith(p, d), () -> m.vehicleWith(p, d));
            case 18 -> compare("vehicleByVehicles(" + p + "," + d + ")", () -> x.vehicleByVehicles(p, d), () -> m.vehicleWith(p, d));
            default -> compare("day()", () -> x.day(), () -> m.day());
        }
    }

    private void askSums() {
        int v = vehicle();
        int k = keeper();
        int q = below(m.day() / 90 + 1);
        switch (next(9)) {
            case 0 -> compare("due(" + v + "," + q + ")", () -> x.due(v, q), () -> m.due(v, q));
            case 1 -> compare("owes(" + k + ")", () -> x.owes(k), () -> m.owes(k));
            case 2 -> compare("owesByDays(" + k + ")", () -> x.owesByDays(k), () -> m.owes(k));
            case 3 -> compare("mostOwing()", () -> x.mostOwing(), () -> m.mostOwing());
            case 4 -> compare("collected()", () -> x.collected(), () -> m.collected());
            case 5 -> compare("roadShare()", () -> Float.floatToRawIntBits(x.roadShare()), () -> Float.floatToRawIntBits(m.roadShare()));
            case 6 -> compare("meanTransfers()", () -> Double.doubleToRawLongBits(x.meanTransfers()), () -> Double.doubleToRawLongBits(m.meanTransfers()));
            case 7 -> compare("keptBy(" + k + ")", () -> x.keptBy(k), () -> m.keptBy(k));
            default -> compare("isSound()", () -> bit(x.isSound()), () -> 1);
        }
    }

    private static long bit(boolean answer) {
        return answer ? 1 : 0;
    }

    private void compare(String what, Check.Call call, Check.Call model) {
        String name = "run " + run + ": " + what;
        Class<?> due = null;
        long answer = 0;
        try {
            answer = model.answer();
            answered++;
        } catch (RuntimeException e) {
            due = e.getClass();
            failedCalls++;
        }
        if (due != null) {
            Check.fails(name, due, call);
            return;
        }
        try {
            Check.same(name, call.answer(), answer);
        } catch (RuntimeException e) {
            Check.report(name + " threw " + e + ", due is " + answer);
        }
    }
}
