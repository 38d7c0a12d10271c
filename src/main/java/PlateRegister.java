import java.util.Arrays;
import java.util.NoSuchElementException;

/**
 * A register of vehicles: who keeps a vehicle on which day, which plate is on it, liens that
 * block, vehicles off the road, and taxes by quarter.
 */
public final class PlateRegister {
    private static final int MAX_KEEPERS = 12;
    private static final int MAX_VEHICLES = 15;
    private static final int MAX_NOTICES = 120;
    private static final int MAX_PLATES = 40;
    private static final int MAX_AMOUNT = 9999;
    private static final int MAX_PASS = 99;
    private static final int LAST_DAY = 3000;
    private static final int QUARTER_DAYS = 90;
    private static final int DAYS_IN_POST = 7;
    private static final int DAYS_KEPT = 361;
    private static final int LENDERS = 6;

    /** Stands for no keeper, no vehicle, no plate, no notice and no day. */
    private static final int NONE = -1;
    private static final int OFF_ROAD = 0;
    private static final int ON_ROAD = 1;

    private static final char OPEN = 'o';
    private static final char USED = 'u';
    private static final char WITHDRAWN = 'w';

    private final Vehicle[] fleet;
    private final Plate[] issued;
    private final Notice[] post;
    private final int[] paid;
    private final int[] owedByQuarters;
    private final int[] owedByDays;
    private int keeperCount;
    private int vehicleCount;
    private int plateCount;
    private int noticeCount;
    private int today;
    private long paidInAll;

    public PlateRegister() {
        fleet = new Vehicle[MAX_VEHICLES];
        issued = new Plate[MAX_PLATES];
        post = new Notice[MAX_NOTICES];
        paid = new int[MAX_KEEPERS];
        owedByQuarters = new int[MAX_KEEPERS];
        owedByDays = new int[MAX_KEEPERS];
    }

    // Keepers and days

    public int addKeeper() throws IllegalStateException {
        if (keeperCount >= MAX_KEEPERS) {
            throw new IllegalStateException("there are 12 keepers");
        }
        keeperCount++;
        return keeperCount - 1;
    }

    public int pass(int days) throws IllegalArgumentException {
        if (days < 1 || days > MAX_PASS || today + days > LAST_DAY) {
            throw new IllegalArgumentException("no such number of days can pass");
        }
        today += days;
        return today;
    }

    public int day() {
        return today;
    }

    // Vehicles

    public int register(int keeper, char kind)
            throws IndexOutOfBoundsException, IllegalArgumentException, IllegalStateException {
        requireKeeper(keeper);
        requireKind(kind);
        requireRoomForVehicle();
        requireRoomForPlate();
        Vehicle vehicle = enterVehicle(keeper, kind);
        bringOnRoad(vehicle);
        return vehicle.number;
    }

    public int bringIn(int keeper, char kind)
            throws IndexOutOfBoundsException, IllegalArgumentException, IllegalStateException {
        requireKeeper(keeper);
        requireKind(kind);
        requireRoomForVehicle();
        return enterVehicle(keeper, kind).number;
    }

    public int admit(int vehicle)
            throws IndexOutOfBoundsException, UnsupportedOperationException, IllegalStateException {
        Vehicle admitted = vehicleAt(vehicle);
        if (admitted.isAdmitted) {
            throw new UnsupportedOperationException("the vehicle has been admitted");
        }
        if (admitted.isScrapped) {
            throw new IllegalStateException("the vehicle is scrapped");
        }
        requireRoomForPlate();
        bringOnRoad(admitted);
        return admitted.plates.lastValue();
    }

    public boolean setOnRoad(int vehicle, boolean isOnRoad)
            throws IndexOutOfBoundsException, UnsupportedOperationException {
        Vehicle declared = vehicleAt(vehicle);
        if (declared.isScrapped || !declared.hasPlate()) {
            throw new UnsupportedOperationException("the vehicle is scrapped or has no plate");
        }
        boolean before = declared.isOnRoadNow();
        declared.road.set(today, isOnRoad ? ON_ROAD : OFF_ROAD);
        return before;
    }

    public boolean isOnRoad(int vehicle, int day)
            throws IndexOutOfBoundsException, IllegalArgumentException {
        Vehicle asked = vehicleAt(vehicle);
        requireDay(day);
        return asked.road.at(day) == ON_ROAD;
    }

    public int scrap(int vehicle) throws IndexOutOfBoundsException, IllegalStateException {
        Vehicle scrapped = vehicleAt(vehicle);
        requireUnblocked(scrapped);
        scrapped.isScrapped = true;
        scrapped.road.set(today, OFF_ROAD);
        Plate last = plateOf(scrapped);
        if (last != null) {
            last.makeVoid(today);
        }
        scrapped.plates.set(today, NONE);
        return unscrapped();
    }

    public char kindOf(int vehicle) throws IndexOutOfBoundsException {
        return vehicleAt(vehicle).kind;
    }

    public int vehicles() {
        return vehicleCount;
    }

    // Notices

    public int sell(int seller, int vehicle, int buyer, int day)
            throws IndexOutOfBoundsException, IllegalArgumentException,
            UnsupportedOperationException, IllegalStateException {
        requireKeeper(seller);
        requireKeeper(buyer);
        Vehicle sold = vehicleAt(vehicle);
        requireDay(day);
        if (seller == buyer) {
            throw new UnsupportedOperationException("the seller and the buyer are the same");
        }
        requireRoomForNotice();
        return enterNotice(seller, sold, buyer, day);
    }

    public int buy(int buyer, int vehicle, int day)
            throws IndexOutOfBoundsException, IllegalArgumentException, IllegalStateException {
        requireKeeper(buyer);
        Vehicle bought = vehicleAt(vehicle);
        requireDay(day);
        requireRoomForNotice();
        return enterNotice(NONE, bought, buyer, day);
    }

    public int withdraw(int notice) throws NoSuchElementException, IllegalStateException {
        Notice withdrawn = noticeAt(notice);
        if (withdrawn.state != OPEN) {
            throw new IllegalStateException("the notice is not open");
        }
        withdrawn.state = WITHDRAWN;
        return countOpen();
    }

    public char stateOf(int notice) throws NoSuchElementException {
        return noticeAt(notice).state;
    }

    public int partnerOf(int notice) throws NoSuchElementException, IllegalStateException {
        Notice asked = noticeAt(notice);
        if (asked.state != USED) {
            throw new IllegalStateException("the notice was not used");
        }
        return asked.partner;
    }

    public int openNotices(int vehicle) throws IndexOutOfBoundsException {
        Vehicle asked = vehicleAt(vehicle);
        int count = 0;
        for (Notice notice : post) {
            if (notice != null && notice.isOpenFor(asked.number)) {
                count++;
            }
        }
        return count;
    }

    // Transfers

    public int keeperOn(int vehicle, int day)
            throws IndexOutOfBoundsException, IllegalArgumentException, NoSuchElementException {
        Vehicle asked = vehicleAt(vehicle);
        requireDay(day);
        return found(asked.keepers.at(day));
    }

    public int keeperByGoing(int vehicle, int day)
            throws IndexOutOfBoundsException, IllegalArgumentException, NoSuchElementException {
        Vehicle asked = vehicleAt(vehicle);
        requireDay(day);
        return found(asked.keepers.atByGoing(day));
    }

    public int transfers(int vehicle) throws IndexOutOfBoundsException {
        return vehicleAt(vehicle).keepers.size;
    }

    public int transferDay(int vehicle, int index) throws IndexOutOfBoundsException {
        Timeline keepers = vehicleAt(vehicle).keepers;
        if (index < 0 || index >= keepers.size) {
            throw new IndexOutOfBoundsException("there is no such transfer");
        }
        return keepers.dayAt(index);
    }

    public int keptBy(int keeper) throws IndexOutOfBoundsException {
        requireKeeper(keeper);
        int count = 0;
        for (Vehicle vehicle : fleet) {
            if (vehicle != null && !vehicle.isScrapped && vehicle.keepers.lastValue() == keeper) {
                count++;
            }
        }
        return count;
    }

    // Liens

    public int addLien(int vehicle, char lender, int amount)
            throws IndexOutOfBoundsException, IllegalArgumentException, IllegalStateException {
        Vehicle pledged = vehicleAt(vehicle);
        if (!isLender(lender) || amount < 1 || amount > MAX_AMOUNT) {
            throw new IllegalArgumentException("there is no such lender or amount");
        }
        if (pledged.isScrapped) {
            throw new IllegalStateException("the vehicle is scrapped");
        }
        addTo(pledged.liens, lender - 'a', amount);
        return pledged.lienLeft(lender);
    }

    public int payLien(int vehicle, char lender, int amount)
            throws IndexOutOfBoundsException, NoSuchElementException, IllegalArgumentException {
        Vehicle pledged = vehicleAt(vehicle);
        int left = requireLien(pledged, lender);
        if (amount < 1 || amount > left) {
            throw new IllegalArgumentException("the amount is out of range");
        }
        addTo(pledged.liens, lender - 'a', -amount);
        if (amount == left) {
            settle(pledged);
        }
        return left - amount;
    }

    public int lienOf(int vehicle, char lender)
            throws IndexOutOfBoundsException, NoSuchElementException {
        return requireLien(vehicleAt(vehicle), lender);
    }

    public boolean isBlocked(int vehicle) throws IndexOutOfBoundsException {
        return vehicleAt(vehicle).isBlockedNow();
    }

    // Plates

    public int keepPlate(int vehicle)
            throws IndexOutOfBoundsException, NoSuchElementException, IllegalStateException {
        Vehicle owner = vehicleAt(vehicle);
        Plate old = plateOf(owner);
        if (old == null) {
            throw new NoSuchElementException("the vehicle has no plate");
        }
        requireUnblocked(owner);
        requireRoomForPlate();
        old.keepFor(owner.keepers.lastValue(), today);
        Plate fresh = issuePlate();
        mount(fresh, owner);
        return fresh.number;
    }

    public int putOn(int plate, int vehicle)
            throws NoSuchElementException, IndexOutOfBoundsException,
            UnsupportedOperationException, IllegalStateException {
        Plate kept = plateAt(plate);
        Vehicle owner = vehicleAt(vehicle);
        if (!kept.isKept(today) || kept.keeper != owner.keepers.lastValue()) {
            throw new UnsupportedOperationException("the plate is not kept for this keeper");
        }
        Plate old = requirePlateToChange(owner);
        old.makeVoid(today);
        mount(kept, owner);
        return old.number;
    }

    public int swapPlates(int vehicle, int other)
            throws IndexOutOfBoundsException, UnsupportedOperationException, IllegalStateException {
        Vehicle first = vehicleAt(vehicle);
        Vehicle second = vehicleAt(other);
        if (vehicle == other || first.keepers.lastValue() != second.keepers.lastValue()) {
            throw new UnsupportedOperationException("there are not two vehicles of one keeper");
        }
        Plate ofFirst = requirePlateToChange(first);
        Plate ofSecond = requirePlateToChange(second);
        mount(ofSecond, first);
        mount(ofFirst, second);
        return ofSecond.number;
    }

    public char plateState(int plate) throws NoSuchElementException {
        Plate asked = plateAt(plate);
        if (asked.places.lastValue() != NONE) {
            return 'v';
        }
        return asked.isKept(today) ? 'k' : 'x';
    }

    public int daysKept(int plate) throws NoSuchElementException, IllegalStateException {
        Plate asked = plateAt(plate);
        if (!asked.isKept(today)) {
            throw new IllegalStateException("the plate is not kept");
        }
        return asked.voidDay() - today;
    }

    public int plates() {
        return plateCount;
    }

    public int plateOn(int vehicle, int day)
            throws IndexOutOfBoundsException, IllegalArgumentException, NoSuchElementException {
        Vehicle asked = vehicleAt(vehicle);
        requireDay(day);
        return found(asked.plates.at(day));
    }

    public int vehicleWith(int plate, int day)
            throws NoSuchElementException, IllegalArgumentException, IllegalStateException {
        Plate asked = plateAt(plate);
        requireDay(day);
        return placeFound(asked.places.at(day));
    }

    public int vehicleByVehicles(int plate, int day)
            throws NoSuchElementException, IllegalArgumentException, IllegalStateException {
        Plate asked = plateAt(plate);
        requireDay(day);
        return placeFound(placeByVehicles(asked.number, day));
    }

    // Taxes

    public int due(int vehicle, int quarter)
            throws IndexOutOfBoundsException, IllegalArgumentException {
        Vehicle asked = vehicleAt(vehicle);
        if (quarter < 0 || quarter > today / QUARTER_DAYS) {
            throw new IllegalArgumentException("there is no such quarter yet");
        }
        return firstRoadDay(asked, quarter) == NONE ? 0 : taxFor(asked.kind);
    }

    public int owes(int keeper) throws IndexOutOfBoundsException {
        requireKeeper(keeper);
        sumByQuarters();
        return entry(owedByQuarters, keeper);
    }

    public int owesByDays(int keeper) throws IndexOutOfBoundsException {
        requireKeeper(keeper);
        sumByDays();
        return entry(owedByDays, keeper);
    }

    public int pay(int keeper, int amount)
            throws IndexOutOfBoundsException, IllegalArgumentException {
        requireKeeper(keeper);
        if (amount < 1 || amount > MAX_AMOUNT) {
            throw new IllegalArgumentException("the amount is out of range");
        }
        addTo(paid, keeper, amount);
        paidInAll += amount;
        sumByQuarters();
        return entry(owedByQuarters, keeper);
    }

    public int mostOwing() throws NoSuchElementException {
        sumByQuarters();
        int most = NONE;
        int amount = 0;
        for (int keeper = 0; keeper < keeperCount; keeper++) {
            if (entry(owedByQuarters, keeper) > amount) {
                most = keeper;
                amount = entry(owedByQuarters, keeper);
            }
        }
        return found(most);
    }

    public long collected() {
        return paidInAll;
    }

    // Figures over all vehicles

    public float roadShare() throws ArithmeticException {
        requireVehicles();
        int onRoad = 0;
        for (Vehicle vehicle : fleet) {
            if (vehicle != null && vehicle.isOnRoadNow()) {
                onRoad++;
            }
        }
        return (float) onRoad / (float) vehicleCount;
    }

    public double meanTransfers() throws ArithmeticException {
        requireVehicles();
        int count = 0;
        for (Vehicle vehicle : fleet) {
            if (vehicle != null) {
                count += vehicle.keepers.size;
            }
        }
        return (double) count / (double) vehicleCount;
    }

    public boolean isSound() {
        return arePlatesSound() && areTaxesSound();
    }

    // What a call asks for before it changes anything

    private void requireKeeper(int keeper) {
        if (keeper < 0 || keeper >= keeperCount) {
            throw new IndexOutOfBoundsException("there is no such keeper");
        }
    }

    private Vehicle vehicleAt(int vehicle) {
        Vehicle asked = vehicle < 0 || vehicle >= fleet.length ? null : fleet[vehicle];
        if (asked == null) {
            throw new IndexOutOfBoundsException("there is no such vehicle");
        }
        return asked;
    }

    private Plate plateAt(int plate) {
        Plate asked = plateOrNull(plate);
        if (asked == null) {
            throw new NoSuchElementException("there is no such plate");
        }
        return asked;
    }

    private Notice noticeAt(int notice) {
        Notice asked = notice < 0 || notice >= post.length ? null : post[notice];
        if (asked == null) {
            throw new NoSuchElementException("there is no such notice");
        }
        return asked;
    }

    private void requireDay(int day) {
        if (day < 0 || day > today) {
            throw new IllegalArgumentException("there is no such day yet");
        }
    }

    private static void requireKind(char kind) {
        if (kind != 'c' && kind != 'm' && kind != 'l' && kind != 'h') {
            throw new IllegalArgumentException("there is no such kind");
        }
    }

    private void requireRoomForVehicle() {
        if (vehicleCount >= MAX_VEHICLES) {
            throw new IllegalStateException("there are 15 vehicles");
        }
    }

    private void requireRoomForPlate() {
        if (plateCount >= MAX_PLATES) {
            throw new IllegalStateException("there are 40 plates");
        }
    }

    private void requireRoomForNotice() {
        if (noticeCount >= MAX_NOTICES) {
            throw new IllegalStateException("there are 120 notices");
        }
    }

    private static void requireUnblocked(Vehicle vehicle) {
        if (vehicle.isBlockedNow()) {
            throw new IllegalStateException("the vehicle is blocked");
        }
    }

    private Plate requirePlateToChange(Vehicle vehicle) {
        Plate plate = plateOf(vehicle);
        if (plate == null || vehicle.isBlockedNow()) {
            throw new IllegalStateException("the vehicle is blocked or has no plate");
        }
        return plate;
    }

    private static int requireLien(Vehicle vehicle, char lender) {
        int left = vehicle.lienLeft(lender);
        if (left == 0) {
            throw new NoSuchElementException("the lender has no lien on this vehicle");
        }
        return left;
    }

    private void requireVehicles() {
        if (vehicleCount == 0) {
            throw new ArithmeticException("there are no vehicles");
        }
    }

    private static int found(int number) {
        if (number == NONE) {
            throw new NoSuchElementException("there is none");
        }
        return number;
    }

    private static int placeFound(int vehicle) {
        if (vehicle == NONE) {
            throw new IllegalStateException("the plate is on no vehicle");
        }
        return vehicle;
    }

    // Vehicles and their plates

    private Vehicle enterVehicle(int keeper, char kind) {
        Vehicle vehicle = new Vehicle(vehicleCount, kind);
        vehicle.keepers.append(today, keeper);
        if (vehicleCount < fleet.length) {
            fleet[vehicleCount] = vehicle;
            vehicleCount++;
        }
        return vehicle;
    }

    private void bringOnRoad(Vehicle vehicle) {
        mount(issuePlate(), vehicle);
        vehicle.isAdmitted = true;
        vehicle.road.set(today, ON_ROAD);
    }

    private Plate issuePlate() {
        Plate plate = new Plate(plateCount);
        if (plateCount < issued.length) {
            issued[plateCount] = plate;
            plateCount++;
        }
        return plate;
    }

    private void mount(Plate plate, Vehicle vehicle) {
        plate.keeper = NONE;
        plate.places.set(today, vehicle.number);
        vehicle.plates.set(today, plate.number);
    }

    private Plate plateOrNull(int plate) {
        return plate < 0 || plate >= issued.length ? null : issued[plate];
    }

    private Plate plateOf(Vehicle vehicle) {
        return plateOrNull(vehicle.plates.lastValue());
    }

    private int unscrapped() {
        int count = 0;
        for (Vehicle vehicle : fleet) {
            if (vehicle != null && !vehicle.isScrapped) {
                count++;
            }
        }
        return count;
    }

    private int placeByVehicles(int plate, int day) {
        for (Vehicle vehicle : fleet) {
            if (vehicle != null && vehicle.plates.at(day) == plate) {
                return vehicle.number;
            }
        }
        return NONE;
    }

    private int countVehiclesWith(int plate) {
        int count = 0;
        for (Vehicle vehicle : fleet) {
            if (vehicle != null && vehicle.plates.lastValue() == plate) {
                count++;
            }
        }
        return count;
    }

    private boolean arePlatesSound() {
        for (Plate plate : issued) {
            if (plate != null && (countVehiclesWith(plate.number) > 1
                    || placeByVehicles(plate.number, today) != plate.places.at(today))) {
                return false;
            }
        }
        return true;
    }

    // Notices that cross in the post

    private int enterNotice(int seller, Vehicle vehicle, int buyer, int day) {
        Notice notice = new Notice(noticeCount, seller, vehicle.number, buyer, day);
        if (noticeCount < post.length) {
            post[noticeCount] = notice;
            noticeCount++;
        }
        settle(vehicle);
        return notice.number;
    }

    private void settle(Vehicle vehicle) {
        int pairs = 0;
        // Each pair uses two notices up, so there are never more pairs than notices.
        while (pairs < MAX_NOTICES && useFirstPair(vehicle)) {
            pairs++;
        }
    }

    private boolean useFirstPair(Vehicle vehicle) {
        if (vehicle.isBlockedNow()) {
            return false;
        }
        for (Notice selling : post) {
            Notice buying = selling != null && maySell(vehicle, selling) ? buyerFor(selling) : null;
            if (buying != null) {
                use(selling, buying, vehicle);
                return true;
            }
        }
        return false;
    }

    private static boolean maySell(Vehicle vehicle, Notice notice) {
        // A buyer's notice names no seller, so it is never that of the present keeper.
        return notice.isOpenFor(vehicle.number)
                && notice.seller == vehicle.keepers.lastValue()
                && notice.day >= vehicle.keepers.lastDay();
    }

    private Notice buyerFor(Notice selling) {
        for (Notice notice : post) {
            if (notice != null && notice.seller == NONE && notice.isOpenFor(selling.vehicle)
                    && notice.buyer == selling.buyer
                    && Math.abs(notice.day - selling.day) <= DAYS_IN_POST) {
                return notice;
            }
        }
        return null;
    }

    private static void use(Notice selling, Notice buying, Vehicle vehicle) {
        selling.state = USED;
        selling.partner = buying.number;
        buying.state = USED;
        buying.partner = selling.number;
        vehicle.keepers.append(selling.day, selling.buyer);
    }

    private int countOpen() {
        int count = 0;
        for (Notice notice : post) {
            if (notice != null && notice.state == OPEN) {
                count++;
            }
        }
        return count;
    }

    // Taxes by both ways

    private static int taxFor(char kind) {
        switch (kind) {
            case 'c':
                return 60;
            case 'm':
                return 20;
            case 'l':
                return 150;
            default:
                return 0;
        }
    }

    private int firstRoadDay(Vehicle vehicle, int quarter) {
        int begin = quarter * QUARTER_DAYS;
        int end = Math.min(begin + QUARTER_DAYS - 1, today);
        return vehicle.road.firstDayWith(ON_ROAD, begin, end);
    }

    private void sumByQuarters() {
        beginWithPaid(owedByQuarters);
        int quarters = today / QUARTER_DAYS + 1;
        for (Vehicle vehicle : fleet) {
            for (int quarter = 0; vehicle != null && quarter < quarters; quarter++) {
                int day = firstRoadDay(vehicle, quarter);
                if (day != NONE) {
                    addTo(owedByQuarters, vehicle.keepers.at(day), taxFor(vehicle.kind));
                }
            }
        }
    }

    private void sumByDays() {
        beginWithPaid(owedByDays);
        for (Vehicle vehicle : fleet) {
            if (vehicle != null) {
                addDays(vehicle);
            }
        }
    }

    private void addDays(Vehicle vehicle) {
        int taxedQuarter = NONE;
        int index = NONE;
        for (int day = 0; day <= today; day++) {
            int quarter = day / QUARTER_DAYS;
            if (quarter != taxedQuarter) {
                // Going on from where the day before ended spares a search for each day.
                index = vehicle.road.advance(index, day);
                if (vehicle.road.valueAt(index) == ON_ROAD) {
                    addTo(owedByDays, vehicle.keepers.atByGoing(day), taxFor(vehicle.kind));
                    taxedQuarter = quarter;
                }
            }
        }
    }

    private void beginWithPaid(int[] row) {
        for (int keeper = 0; keeper < row.length; keeper++) {
            row[keeper] = -entry(paid, keeper);
        }
    }

    private boolean areTaxesSound() {
        sumByQuarters();
        sumByDays();
        for (int keeper = 0; keeper < keeperCount; keeper++) {
            if (entry(owedByQuarters, keeper) != entry(owedByDays, keeper)) {
                return false;
            }
        }
        return true;
    }

    // Rows and lenders

    private static boolean isLender(char lender) {
        return lender >= 'a' && lender < 'a' + LENDERS;
    }

    private static int entry(int[] row, int index) {
        return index >= 0 && index < row.length ? row[index] : 0;
    }

    private static void addTo(int[] row, int index, int amount) {
        if (index >= 0 && index < row.length) {
            row[index] += amount;
        }
    }

    /** A vehicle with all that has been so of it, and what blocks it. */
    private static final class Vehicle {
        final int number;
        final char kind;
        final Timeline keepers;
        final Timeline plates;
        final Timeline road;
        final int[] liens;
        boolean isAdmitted;
        boolean isScrapped;

        Vehicle(int number, char kind) {
            this.number = number;
            this.kind = kind;
            keepers = new Timeline();
            plates = new Timeline();
            road = new Timeline();
            liens = new int[LENDERS];
        }

        boolean isOnRoadNow() {
            return road.lastValue() == ON_ROAD;
        }

        boolean hasPlate() {
            return plates.lastValue() != NONE;
        }

        int lienLeft(char lender) {
            return entry(liens, lender - 'a');
        }

        boolean isBlockedNow() {
            for (int left : liens) {
                if (left > 0) {
                    return true;
                }
            }
            return isScrapped;
        }
    }

    /** A plate with the vehicles on which it has been, and for whom it is kept. */
    private static final class Plate {
        final int number;
        final Timeline places;
        int keeper;
        int takenOff;

        Plate(int number) {
            this.number = number;
            places = new Timeline();
            keeper = NONE;
            takenOff = NONE;
        }

        void keepFor(int newKeeper, int day) {
            keeper = newKeeper;
            takenOff = day;
            places.set(day, NONE);
        }

        void makeVoid(int day) {
            keeper = NONE;
            places.set(day, NONE);
        }

        boolean isKept(int day) {
            return keeper != NONE && day < voidDay();
        }

        int voidDay() {
            return takenOff + DAYS_KEPT;
        }
    }

    /** A seller's notice, or a buyer's notice, which names no seller. */
    private static final class Notice {
        final int number;
        final int seller;
        final int vehicle;
        final int buyer;
        final int day;
        char state;
        int partner;

        Notice(int number, int seller, int vehicle, int buyer, int day) {
            this.number = number;
            this.seller = seller;
            this.vehicle = vehicle;
            this.buyer = buyer;
            this.day = day;
            state = OPEN;
            partner = NONE;
        }

        boolean isOpenFor(int asked) {
            return state == OPEN && vehicle == asked;
        }
    }

    /** Numbers, each of which holds from its day on until the day of the next one. */
    private static final class Timeline {
        private static final int FIRST_ROOM = 4;
        /** More than the register has days, and more than it has notices. */
        private static final int MAX_ROOM = 4096;
        /** Halving this often ends for every size that an int can tell. */
        private static final int MAX_HALVINGS = 32;

        int[] days;
        int[] values;
        int size;

        Timeline() {
            days = new int[FIRST_ROOM];
            values = new int[FIRST_ROOM];
        }

        /** Adds an entry behind the others, none of which has a later day. */
        void append(int day, int value) {
            if (size >= days.length) {
                widen();
            }
            if (size < days.length && size < values.length) {
                days[size] = day;
                values[size] = value;
                size++;
            }
        }

        /** Lets a value hold from a day on; what was set earlier on this day is forgotten. */
        void set(int day, int value) {
            int last = size - 1;
            if (last >= 0 && last < values.length && dayAt(last) == day) {
                values[last] = value;
            } else {
                append(day, value);
            }
        }

        private void widen() {
            int room = days.length < MAX_ROOM / 2 ? days.length * 2 : MAX_ROOM;
            days = Arrays.copyOf(days, room);
            values = Arrays.copyOf(values, room);
        }

        int dayAt(int index) {
            return index >= 0 && index < size && index < days.length ? days[index] : NONE;
        }

        int valueAt(int index) {
            return index >= 0 && index < size && index < values.length ? values[index] : NONE;
        }

        int lastDay() {
            return dayAt(size - 1);
        }

        int lastValue() {
            return valueAt(size - 1);
        }

        int at(int day) {
            return valueAt(indexByHalving(day));
        }

        int atByGoing(int day) {
            return valueAt(advance(NONE, day));
        }

        /** Goes on from an entry to the last one that has begun on a day. */
        int advance(int index, int day) {
            int reached = index;
            for (int next = index + 1; next < size && dayAt(next) <= day; next++) {
                reached = next;
            }
            return reached;
        }

        /** Returns the last entry that has begun on a day, NONE if none has. */
        int indexByHalving(int day) {
            int low = 0;
            int high = size;
            for (int i = 0; i < MAX_HALVINGS && low < high; i++) {
                int middle = low + (high - low) / 2;
                if (dayAt(middle) <= day) {
                    low = middle + 1;
                } else {
                    high = middle;
                }
            }
            return low - 1;
        }

        /** Returns the first of some days on which a value holds, NONE if there is none. */
        int firstDayWith(int value, int begin, int end) {
            for (int i = Math.max(0, indexByHalving(begin)); i < size && dayAt(i) <= end; i++) {
                if (valueAt(i) == value) {
                    return Math.max(dayAt(i), begin);
                }
            }
            return NONE;
        }
    }
}
