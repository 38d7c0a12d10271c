import java.util.ArrayList;
import java.util.Arrays;
import java.util.List;
import java.util.NoSuchElementException;

/**
 * The document once more, in another form: what is so at the end of each day is written down day by
 * day, and every question goes through all that is written.
 */
final class PlainModel {
    private static final int DAYS = 3001;

    private static final class Car {
        int number;
        char kind;
        int cameOn;
        boolean road;
        boolean admitted;
        boolean scrapped;
        int plate = -1;
        final int[] liens = new int[6];
        final boolean[] roadAt = new boolean[DAYS];
        final int[] plateAt = new int[DAYS];
        final List<int[]> transfers = new ArrayList<>();

        int keeper() {
            return transfers.get(transfers.size() - 1)[1];
        }

        boolean blocked() {
            return scrapped || Arrays.stream(liens).sum() > 0;
        }
    }

    private static final class Tag {
        char state = 'v';
        int keeper = -1;
        int takenOff;
    }

    private static final class Note {
        boolean seller;
        int from;
        int car;
        int to;
        int day;
        char state = 'o';
        int partner;
    }

    private int keepers;
    private int today;
    private long collected;
    private final int[] paid = new int[12];
    private final List<Car> cars = new ArrayList<>();
    private final List<Tag> tags = new ArrayList<>();
    private final List<Note> notes = new ArrayList<>();

    // Guards

    private static void index(boolean right) {
        if (!right) {
            throw new IndexOutOfBoundsException();
        }
    }

    private static void argument(boolean right) {
        if (!right) {
            throw new IllegalArgumentException();
        }
    }

    private static void state(boolean right) {
        if (!right) {
            throw new IllegalStateException();
        }
    }

    private static void supported(boolean right) {
        if (!right) {
            throw new UnsupportedOperationException();
        }
    }

    private static void element(boolean right) {
        if (!right) {
            throw new NoSuchElementException();
        }
    }

    private void keeperIs(int keeper) {
        index(0 <= keeper && keeper < keepers);
    }

    private Car car(int number) {
        index(0 <= number && number < cars.size());
        return cars.get(number);
    }

    private Tag tag(int number) {
        element(0 <= number && number < tags.size());
        return tags.get(number);
    }

    private Note note(int number) {
        element(0 <= number && number < notes.size());
        return notes.get(number);
    }

    private void dayIs(int day) {
        argument(0 <= day && day <= today);
    }

    // Calls that come to the office

    int addKeeper() {
        state(keepers < 12);
        return keepers++;
    }

    int pass(int days) {
        argument(1 <= days && days <= 99);
        argument(today + days <= 3000);
        for (int i = 0; i < days; i++) {
            for (Car car : cars) {
                car.roadAt[today] = car.road;
                car.plateAt[today] = car.plate;
            }
            today++;
            for (Tag tag : tags) {
                if (tag.state == 'k' && today - tag.takenOff == 361) {
                    tag.state = 'x';
                }
            }
        }
        return today;
    }

    int day() {
        return today;
    }

    int register(int keeper, char kind) {
        keeperIs(keeper);
        argument("cmlh".indexOf(kind) >= 0);
        state(cars.size() < 15 && tags.size() < 40);
        int number = bringIn(keeper, kind);
        admit(number);
        return number;
    }

    int bringIn(int keeper, char kind) {
        keeperIs(keeper);
        argument("cmlh".indexOf(kind) >= 0);
        state(cars.size() < 15);
        Car car = new Car();
        car.number = cars.size();
        car.kind = kind;
        car.cameOn = today;
        Arrays.fill(car.plateAt, -1);
        car.transfers.add(new int[] {today, keeper});
        cars.add(car);
        return car.number;
    }

    private int newTag() {
        tags.add(new Tag());
        return tags.size() - 1;
    }

    int admit(int vehicle) {
        Car car = car(vehicle);
        supported(!car.admitted);
        state(!car.scrapped && tags.size() < 40);
        car.admitted = true;
        car.road = true;
        car.plate = newTag();
        return car.plate;
    }

    boolean setOnRoad(int vehicle, boolean isOnRoad) {
        Car car = car(vehicle);
        supported(!car.scrapped && car.plate >= 0);
        boolean before = car.road;
        car.road = isOnRoad;
        return before;
    }

    int scrap(int vehicle) {
        Car car = car(vehicle);
        state(!car.blocked());
        car.scrapped = true;
        car.road = false;
        if (car.plate >= 0) {
            tags.get(car.plate).state = 'x';
        }
        car.plate = -1;
        return (int) cars.stream().filter(c -> !c.scrapped).count();
    }

    int sell(int seller, int vehicle, int buyer, int day) {
        keeperIs(seller);
        keeperIs(buyer);
        car(vehicle);
        dayIs(day);
        supported(seller != buyer);
        return enter(true, seller, vehicle, buyer, day);
    }

    int buy(int buyer, int vehicle, int day) {
        keeperIs(buyer);
        car(vehicle);
        dayIs(day);
        return enter(false, -1, vehicle, buyer, day);
    }

    private int enter(boolean seller, int from, int vehicle, int to, int day) {
        state(notes.size() < 120);
        Note note = new Note();
        note.seller = seller;
        note.from = from;
        note.car = vehicle;
        note.to = to;
        note.day = day;
        notes.add(note);
        match(vehicle);
        return notes.size() - 1;
    }

    private void match(int vehicle) {
        for (int s = 0; s < notes.size(); s++) {
            for (int b = 0; b < notes.size(); b++) {
                if (fit(notes.get(s), notes.get(b), vehicle)) {
                    notes.get(s).state = 'u';
                    notes.get(b).state = 'u';
                    notes.get(s).partner = b;
                    notes.get(b).partner = s;
                    cars.get(vehicle).transfers.add(new int[] {notes.get(s).day, notes.get(s).to});
                    match(vehicle);
                    return;
                }
            }
        }
    }

    private boolean fit(Note s, Note b, int vehicle) {
        Car car = cars.get(vehicle);
        int last = car.transfers.get(car.transfers.size() - 1)[0];
        return s.seller && !b.seller && s.state == 'o' && b.state == 'o'
                && s.car == vehicle && b.car == vehicle && s.to == b.to
                && s.day - b.day <= 7 && b.day - s.day <= 7
                && s.from == car.keeper() && s.day >= last && !car.blocked();
    }

    int withdraw(int notice) {
        Note note = note(notice);
        state(note.state == 'o');
        note.state = 'w';
        return (int) notes.stream().filter(n -> n.state == 'o').count();
    }

    int addLien(int vehicle, char lender, int amount) {
        Car car = car(vehicle);
        argument('a' <= lender && lender <= 'f' && 1 <= amount && amount <= 9999);
        state(!car.scrapped);
        return car.liens[lender - 'a'] += amount;
    }

    int payLien(int vehicle, char lender, int amount) {
        int left = lienOf(vehicle, lender);
        argument(1 <= amount && amount <= left);
        car(vehicle).liens[lender - 'a'] -= amount;
        if (left == amount) {
            match(vehicle);
        }
        return left - amount;
    }

    int keepPlate(int vehicle) {
        Car car = car(vehicle);
        element(car.plate >= 0);
        state(!car.blocked() && tags.size() < 40);
        Tag old = tags.get(car.plate);
        old.state = 'k';
        old.keeper = car.keeper();
        old.takenOff = today;
        car.plate = newTag();
        return car.plate;
    }

    int putOn(int plate, int vehicle) {
        Tag tag = tag(plate);
        Car car = car(vehicle);
        supported(tag.state == 'k' && tag.keeper == car.keeper());
        state(!car.blocked() && car.plate >= 0);
        int old = car.plate;
        tags.get(old).state = 'x';
        tag.state = 'v';
        car.plate = plate;
        return old;
    }

    int swapPlates(int vehicle, int other) {
        Car a = car(vehicle);
        Car b = car(other);
        supported(a != b && a.keeper() == b.keeper());
        state(!a.blocked() && !b.blocked() && a.plate >= 0 && b.plate >= 0);
        int plate = a.plate;
        a.plate = b.plate;
        b.plate = plate;
        return a.plate;
    }

    int pay(int keeper, int amount) {
        keeperIs(keeper);
        argument(1 <= amount && amount <= 9999);
        paid[keeper] += amount;
        collected += amount;
        return owes(keeper);
    }

    // Calls that ask

    private boolean roadOn(Car car, int day) {
        return day == today ? car.road : car.roadAt[day];
    }

    private int plateOfDay(Car car, int day) {
        return day == today ? car.plate : car.plateAt[day];
    }

    boolean isOnRoad(int vehicle, int day) {
        Car car = car(vehicle);
        dayIs(day);
        return roadOn(car, day);
    }

    char kindOf(int vehicle) {
        return car(vehicle).kind;
    }

    int vehicles() {
        return cars.size();
    }

    char stateOf(int notice) {
        return note(notice).state;
    }

    int partnerOf(int notice) {
        Note note = note(notice);
        state(note.state == 'u');
        return note.partner;
    }

    int openNotices(int vehicle) {
        car(vehicle);
        return (int) notes.stream().filter(n -> n.car == vehicle && n.state == 'o').count();
    }

    int keeperOn(int vehicle, int day) {
        Car car = car(vehicle);
        dayIs(day);
        element(day >= car.cameOn);
        int keeper = -1;
        for (int[] transfer : car.transfers) {
            keeper = transfer[0] <= day ? transfer[1] : keeper;
        }
        return keeper;
    }

    int transfers(int vehicle) {
        return car(vehicle).transfers.size();
    }

    int transferDay(int vehicle, int index) {
        Car car = car(vehicle);
        index(0 <= index && index < car.transfers.size());
        return car.transfers.get(index)[0];
    }

    int keptBy(int keeper) {
        keeperIs(keeper);
        return (int) cars.stream().filter(c -> !c.scrapped && c.keeper() == keeper).count();
    }

    int lienOf(int vehicle, char lender) {
        Car car = car(vehicle);
        element('a' <= lender && lender <= 'f' && car.liens[lender - 'a'] > 0);
        return car.liens[lender - 'a'];
    }

    boolean isBlocked(int vehicle) {
        return car(vehicle).blocked();
    }

    char plateState(int plate) {
        return tag(plate).state;
    }

    int daysKept(int plate) {
        Tag tag = tag(plate);
        state(tag.state == 'k');
        return tag.takenOff + 361 - today;
    }

    int plates() {
        return tags.size();
    }

    int plateOn(int vehicle, int day) {
        Car car = car(vehicle);
        dayIs(day);
        element(plateOfDay(car, day) >= 0);
        return plateOfDay(car, day);
    }

    int vehicleWith(int plate, int day) {
        tag(plate);
        dayIs(day);
        int found = -1;
        for (Car car : cars) {
            if (plateOfDay(car, day) == plate) {
                found = car.number;
            }
        }
        state(found >= 0);
        return found;
    }

    private static int tax(char kind) {
        return kind == 'c' ? 60 : kind == 'm' ? 20 : kind == 'l' ? 150 : 0;
    }

    private int firstDay(Car car, int quarter) {
        for (int day = quarter * 90; day < quarter * 90 + 90 && day <= today; day++) {
            if (roadOn(car, day)) {
                return day;
            }
        }
        return -1;
    }

    int due(int vehicle, int quarter) {
        Car car = car(vehicle);
        argument(quarter >= 0 && quarter <= 34 && quarter * 90 <= today);
        return firstDay(car, quarter) >= 0 ? tax(car.kind) : 0;
    }

    int owes(int keeper) {
        keeperIs(keeper);
        int sum = -paid[keeper];
        for (Car car : cars) {
            for (int quarter = 0; quarter * 90 <= today; quarter++) {
                int day = firstDay(car, quarter);
                if (day >= 0 && keeperOn(car.number, day) == keeper) {
                    sum += tax(car.kind);
                }
            }
        }
        return sum;
    }

    int mostOwing() {
        int most = -1;
        for (int keeper = keepers - 1; keeper >= 0; keeper--) {
            int amount = owes(keeper);
            if (amount > 0 && (most < 0 || amount >= owes(most))) {
                most = keeper;
            }
        }
        element(most >= 0);
        return most;
    }

    long collected() {
        return collected;
    }

    float roadShare() {
        if (cars.isEmpty()) {
            throw new ArithmeticException();
        }
        return (float) cars.stream().filter(c -> c.road).count() / (float) cars.size();
    }

    double meanTransfers() {
        if (cars.isEmpty()) {
            throw new ArithmeticException();
        }
        return (double) cars.stream().mapToInt(c -> c.transfers.size()).sum() / (double) cars.size();
    }
}
