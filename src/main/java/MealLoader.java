import java.util.Arrays;
import java.util.NoSuchElementException;

/** Loading of meals for a flight. What each method promises stands in the document, under its name. */
public final class MealLoader {
    public static final int NONE = -1;

    private static final int MOST_CABINS = 4;
    private static final int MOST_MEALS = 12;
    private static final int MOST_PASSENGERS = 40;
    private static final int MOST_TROLLEYS = 8;
    private static final int MOST_TOP_UPS = 6;
    private static final int MOST_UNDONE = 12;
    private static final int KEEPING_SLOTS = 2;
    private static final int MOST_NEEDS = 255;
    private static final int MOST_UNITS = 99;
    private static final int MOST_MINUTES = 999;
    private static final int INPUT_ROOM = 900;
    // Each meal takes two digits, the sign x, six letters and a sign behind it, at most.
    private static final int OUTPUT_ROOM = MOST_MEALS * 10;

    private static final int NO_FLIGHT = 0;
    private static final int OPEN = 1;
    private static final int CLOSED = 2;
    private static final int SERVED = 3;

    private static final int REFUSED_PHASE = 1;
    private static final int REFUSED_CLOSED = 2;
    private static final int REFUSED_NO_ROOM = 3;
    private static final int REFUSED_NOT_LOADED = 4;
    private static final int REFUSED_TOP_UPS = 5;
    private static final int REFUSED_LEAD = 6;
    private static final int REFUSED_MINUTES = 7;
    private static final int REFUSED_PASSENGERS = 8;
    private static final int REFUSED_SEATS = 9;

    private static final int LOADED = 0;
    private static final int EATEN = 1;
    private static final int WASTED = 2;
    private static final int WASTED_COST = 3;
    private static final int HUNGRY = 4;
    private static final int SERVICES = 5;
    private static final int ACCOUNTS = 6;

    private final byte[] input;
    private int inputLength;
    private final byte[] output;
    private int outputLength;
    private int textError;
    private int textErrorPosition;
    private int latestReason;
    private final Flight now;
    // A flight to try an act or a text on, so that one which fails leaves the present flight alone.
    private final Flight trial;
    private Plan idlePlan;
    private final FlightText flightText;
    private final History history;
    private final Flight[] slotFlights;
    private final boolean[] slotUsed;
    private final Order order;
    private final Matching matching;
    private final Service service;
    private boolean serviceReckoned;

    public MealLoader() {
        input = new byte[INPUT_ROOM];
        output = new byte[OUTPUT_ROOM];
        textErrorPosition = NONE;
        Plan first = new Plan();
        now = new Flight(first);
        trial = new Flight(first);
        idlePlan = new Plan();
        flightText = new FlightText();
        history = new History(first);
        slotFlights = new Flight[KEEPING_SLOTS];
        for (int slot = 0; slot < KEEPING_SLOTS; slot++) {
            slotFlights[slot] = new Flight(first);
        }
        slotUsed = new boolean[KEEPING_SLOTS];
        order = new Order();
        matching = new Matching();
        service = new Service();
    }

    // ---- input

    public int feed(int a, int b, int c, int d, int e) throws IllegalStateException {
        if (inputLength + 20 > INPUT_ROOM) {
            throw new IllegalStateException("the input buffer is full");
        }
        appendBytes(a);
        appendBytes(b);
        appendBytes(c);
        appendBytes(d);
        appendBytes(e);
        return inputLength;
    }

    private void appendBytes(int four) {
        for (int shift = 24; shift >= 0 && inputLength < input.length; shift -= 8) {
            input[inputLength] = (byte) (four >> shift);
            inputLength++;
        }
    }

    public int load(int length) throws IllegalArgumentException, IllegalStateException {
        if (length < 0 || length > inputLength) {
            throw new IllegalArgumentException("no such length of the buffer");
        }
        boolean right = flightText.read(input, length, trial, idlePlan);
        inputLength = 0;
        textError = flightText.error;
        textErrorPosition = flightText.errorAt;
        if (!right) {
            throw new IllegalStateException("the text has an error");
        }
        idlePlan = now.plan;
        trial.copyAccounts(now);
        now.copy(trial);
        forgetPast();
        for (int slot = 0; slot < KEEPING_SLOTS; slot++) {
            slotUsed[slot] = false;
        }
        latestReason = 0;
        return now.passengers;
    }

    public int errorCode() {
        return textError;
    }

    public int errorPosition() {
        return textErrorPosition;
    }

    // ---- the flight

    public int count(int what) throws IllegalArgumentException {
        switch (what) {
            case 0: return now.phase();
            case 1: return now.plan.cabins;
            case 2: return now.plan.meals;
            case 3: return now.passengers;
            case 4: return now.plan.trolleys;
            case 5: return now.minutesLeft;
            case 6: return now.topUps;
            case 7: return now.allLoaded();
            case 8: return freshOrder().allUnits();
            case 9: return history.size;
            case 10: return now.plan.closing;
            case 11: return now.plan.lead;
            default: throw new IllegalArgumentException("nothing such to count");
        }
    }

    public int cabin(int cabin, int what) throws NoSuchElementException, IllegalArgumentException {
        requireCabin(cabin);
        switch (what) {
            case 0: return now.plan.cabin[cabin].seats;
            case 1: return now.plan.cabin[cabin].spare;
            case 2: return now.passengersIn(cabin);
            case 3: return now.specialsIn(cabin);
            case 4: return now.plan.trolleysOf(cabin);
            case 5: return now.freeSlotsIn(cabin);
            case 6: return now.plan.menuOf(cabin);
            case 7: return freshOrder().slotsOfMenu(now.plan, cabin);
            default: throw new IllegalArgumentException("nothing such of a cabin");
        }
    }

    public int meal(int meal, int what) throws NoSuchElementException, IllegalArgumentException {
        requireMeal(meal);
        switch (what) {
            case 0: return now.plan.meal[meal].cabin;
            case 1: return now.plan.meal[meal].share;
            case 2: return now.plan.meal[meal].size;
            case 3: return now.plan.meal[meal].cost;
            case 4: return now.plan.meal[meal].offers;
            case 5: return now.loadedOf(meal);
            case 6: return freshOrder().units[meal];
            case 7: return now.onTheWay(meal);
            case 8: return now.phase() == SERVED ? freshService().eaten[meal] : 0;
            case 9: return now.missing(meal, freshOrder().units[meal]);
            default: throw new IllegalArgumentException("nothing such of a meal");
        }
    }

    public int passenger(int passenger, int what) throws NoSuchElementException, IllegalArgumentException {
        requirePassenger(passenger);
        switch (what) {
            case 0: return now.cabinOf[passenger];
            case 1: return now.needs[passenger];
            case 2: return now.wish[passenger];
            case 3: return now.phase() == SERVED ? freshService().got[passenger] : NONE;
            case 4: return now.suiting(passenger);
            case 5: return now.cheapestFor(passenger);
            default: throw new IllegalArgumentException("nothing such of a passenger");
        }
    }

    public int trolley(int trolley, int what) throws NoSuchElementException, IllegalArgumentException {
        requireTrolley(trolley);
        switch (what) {
            case 0: return now.plan.trolleyCabin[trolley];
            case 1: return now.plan.trolleySlots[trolley];
            case 2: return now.freeSlots(trolley);
            case 3: return now.unitsIn(trolley);
            default: throw new IllegalArgumentException("nothing such of a trolley");
        }
    }

    public int held(int trolley, int meal) throws NoSuchElementException {
        requireTrolley(trolley);
        requireMeal(meal);
        return now.units[trolley][meal];
    }

    public int topUpAt(int index, int what) throws IndexOutOfBoundsException, IllegalArgumentException {
        if (index < 0 || index >= now.topUps) {
            throw new IndexOutOfBoundsException("no such top-up");
        }
        switch (what) {
            case 0: return now.topUpMeal[index];
            case 1: return now.topUpUnits[index];
            case 2: return now.topUpDue[index];
            default: throw new IllegalArgumentException("nothing such of a top-up");
        }
    }

    // ---- passengers

    public int board(int cabin, int needs, int wish)
            throws NoSuchElementException, IllegalArgumentException, IllegalStateException {
        requireCabin(cabin);
        if (wish != NONE) {
            requireMeal(wish);
        }
        requireNeeds(needs);
        if (wish != NONE && now.plan.meal[wish].cabin != cabin) {
            throw new IllegalArgumentException("the wish is not on the menu");
        }
        requireFlight();
        if (now.passengers >= MOST_PASSENGERS) {
            refuse(REFUSED_PASSENGERS);
        }
        requireSeat(cabin);
        beginAct();
        now.seat(cabin, needs, wish);
        return now.passengers - 1;
    }

    public int change(int passenger, int cabin)
            throws NoSuchElementException, IllegalArgumentException, IllegalStateException {
        requirePassenger(passenger);
        requireCabin(cabin);
        int previous = now.cabinOf[passenger];
        if (previous == cabin) {
            throw new IllegalArgumentException("the passenger is in this cabin");
        }
        requireFlight();
        requireSeat(cabin);
        beginAct();
        now.cabinOf[passenger] = cabin;
        now.wish[passenger] = NONE;
        return previous;
    }

    public int leave(int passenger) throws NoSuchElementException, IllegalStateException {
        requirePassenger(passenger);
        requireFlight();
        beginAct();
        now.removePassenger(passenger);
        return now.passengers;
    }

    public int setNeeds(int passenger, int needs)
            throws NoSuchElementException, IllegalArgumentException, IllegalStateException {
        requirePassenger(passenger);
        requireNeeds(needs);
        requireFlight();
        beginAct();
        int previous = now.needs[passenger];
        now.needs[passenger] = needs;
        return previous;
    }

    // ---- loading

    public int loadOrder() throws IllegalStateException {
        requireOpen();
        Order wanted = freshOrder();
        trial.copy(now);
        int stored = 0;
        for (int meal = 0; meal < now.plan.meals; meal++) {
            int missing = now.missing(meal, wanted.units[meal]);
            if (trial.put(meal, missing) < missing) {
                refuse(REFUSED_NO_ROOM);
            }
            stored += missing;
        }
        beginAct();
        now.copy(trial);
        return stored;
    }

    public int store(int meal, int units)
            throws NoSuchElementException, IllegalArgumentException, IllegalStateException {
        requireMeal(meal);
        requireUnits(units);
        requireOpen();
        trial.copy(now);
        if (trial.put(meal, units) < units) {
            refuse(REFUSED_NO_ROOM);
        }
        beginAct();
        now.copy(trial);
        return now.loadedOf(meal);
    }

    public int unload(int meal, int units)
            throws NoSuchElementException, IllegalArgumentException, IllegalStateException {
        requireMeal(meal);
        requireUnits(units);
        requireFlight();
        if (now.loadedOf(meal) < units) {
            refuse(REFUSED_NOT_LOADED);
        }
        beginAct();
        now.takeOut(meal, units);
        return now.loadedOf(meal);
    }

    public int topUp(int meal, int units)
            throws NoSuchElementException, IllegalArgumentException, IllegalStateException {
        requireMeal(meal);
        requireUnits(units);
        requireFlight();
        if (now.topUps >= MOST_TOP_UPS) {
            refuse(REFUSED_TOP_UPS);
        }
        if (now.minutesLeft < now.plan.lead) {
            refuse(REFUSED_LEAD);
        }
        beginAct();
        now.askFor(meal, units);
        now.letArrive();
        return now.topUps;
    }

    public int advance(int minutes) throws IllegalArgumentException, IllegalStateException {
        if (minutes < 1 || minutes > MOST_MINUTES) {
            throw new IllegalArgumentException("minutes out of range");
        }
        requireFlight();
        if (now.minutesLeft < minutes) {
            refuse(REFUSED_MINUTES);
        }
        beginAct();
        now.minutesLeft -= minutes;
        return now.letArrive();
    }

    public int reason() {
        return latestReason;
    }

    // ---- service

    public int outlook(int what) throws IllegalArgumentException {
        switch (what) {
            case 0: return freshService().specialsFed;
            case 1: return freshService().fed;
            case 2: return now.passengers - freshService().fed;
            case 3: return freshService().wasted;
            case 4: return freshService().wastedCost;
            case 5: return freshService().wishesMet;
            default: throw new IllegalArgumentException("nothing such of the service");
        }
    }

    public int mealFor(int passenger) throws NoSuchElementException {
        requirePassenger(passenger);
        return freshService().got[passenger];
    }

    public int serve() throws IllegalStateException {
        requireFlight();
        Service due = freshService();
        beginAct();
        now.accounts[LOADED] += now.allLoaded();
        now.accounts[EATEN] += due.fed;
        now.accounts[WASTED] += due.wasted;
        now.accounts[WASTED_COST] += due.wastedCost;
        now.accounts[HUNGRY] += now.passengers - due.fed;
        now.accounts[SERVICES]++;
        now.served = true;
        now.minutesLeft = 0;
        now.topUps = 0;
        return due.fed;
    }

    // ---- accounts

    public long account(int what) throws IllegalArgumentException {
        if (what < 0 || what >= ACCOUNTS) {
            throw new IllegalArgumentException("no such account");
        }
        return now.accounts[what];
    }

    public float wasteShare() {
        long loaded = now.accounts[LOADED];
        if (loaded == 0) {
            return 0;
        }
        return (float) now.accounts[WASTED] / (float) loaded;
    }

    public int wasteBits() {
        return bitsOfShare(wasteShare());
    }

    public long costBits() {
        long services = now.accounts[SERVICES];
        if (services == 0) {
            return 0;
        }
        return bitsOfCost((double) now.accounts[WASTED_COST] / (double) services);
    }

    // ---- undo and slots

    public int undo() throws IllegalStateException {
        if (history.size == 0) {
            throw new IllegalStateException("nothing can be undone");
        }
        history.takeBack(now);
        serviceReckoned = false;
        return history.size;
    }

    public int keep(int slot) throws IllegalArgumentException {
        requireSlot(slot);
        slotFlights[slot].copy(now);
        slotUsed[slot] = true;
        return now.phase();
    }

    public int restore(int slot) throws IllegalArgumentException, NoSuchElementException {
        requireSlot(slot);
        if (!slotUsed[slot]) {
            throw new NoSuchElementException("the slot is empty");
        }
        now.copy(slotFlights[slot]);
        forgetPast();
        return now.phase();
    }

    // ---- output

    public int writeTrolley(int trolley) throws NoSuchElementException {
        requireTrolley(trolley);
        outputLength = 0;
        for (int meal = 0; meal < now.plan.meals; meal++) {
            int units = now.units[trolley][meal];
            if (units > 0) {
                if (outputLength > 0) {
                    writeSign(' ');
                }
                writeUnits(units, now.plan.meal[meal].name);
            }
        }
        writeSign('\n');
        return outputLength;
    }

    public int outputByte(int index) throws IndexOutOfBoundsException {
        if (index < 0 || index >= outputLength) {
            throw new IndexOutOfBoundsException("no such byte of the output");
        }
        return output[index];
    }

    private void writeUnits(int units, String name) {
        if (units > 9) {
            writeSign((char) ('0' + units / 10));
        }
        writeSign((char) ('0' + units % 10));
        writeSign('x');
        for (int i = 0; i < name.length(); i++) {
            writeSign(name.charAt(i));
        }
    }

    private void writeSign(char sign) {
        if (outputLength < output.length) {
            output[outputLength] = (byte) sign;
            outputLength++;
        }
    }

    // ---- what the methods above share

    private void requireCabin(int cabin) {
        if (cabin < 0 || cabin >= now.plan.cabins) {
            throw new NoSuchElementException("no such cabin");
        }
    }

    private void requireMeal(int meal) {
        if (meal < 0 || meal >= now.plan.meals) {
            throw new NoSuchElementException("no such meal");
        }
    }

    private void requirePassenger(int passenger) {
        if (passenger < 0 || passenger >= now.passengers) {
            throw new NoSuchElementException("no such passenger");
        }
    }

    private void requireTrolley(int trolley) {
        if (trolley < 0 || trolley >= now.plan.trolleys) {
            throw new NoSuchElementException("no such trolley");
        }
    }

    private void requireNeeds(int needs) {
        if (needs < 0 || needs > MOST_NEEDS) {
            throw new IllegalArgumentException("needs out of range");
        }
    }

    private void requireUnits(int units) {
        if (units < 1 || units > MOST_UNITS) {
            throw new IllegalArgumentException("units out of range");
        }
    }

    private void requireSlot(int slot) {
        if (slot < 0 || slot >= KEEPING_SLOTS) {
            throw new IllegalArgumentException("no such slot");
        }
    }

    private void requireFlight() {
        int phase = now.phase();
        if (phase == NO_FLIGHT || phase == SERVED) {
            refuse(REFUSED_PHASE);
        }
    }

    private void requireOpen() {
        requireFlight();
        if (now.phase() == CLOSED) {
            refuse(REFUSED_CLOSED);
        }
    }

    private void requireSeat(int cabin) {
        if (now.freeSeats(cabin) < 1) {
            refuse(REFUSED_SEATS);
        }
    }

    private void refuse(int why) {
        latestReason = why;
        throw new IllegalStateException("the act is refused");
    }

    /** Called when nothing can refuse the act any more, before it changes anything. */
    private void beginAct() {
        history.add(now);
        serviceReckoned = false;
    }

    private void forgetPast() {
        history.size = 0;
        serviceReckoned = false;
    }

    private Order freshOrder() {
        order.reckon(now);
        return order;
    }

    /** The service depends on passengers and units alone, which no longer change behind it. */
    private Service freshService() {
        if (!serviceReckoned) {
            matching.match(now);
            service.reckon(now, matching.got);
            serviceReckoned = true;
        }
        return service;
    }

    /** The bits of a number from 0 to 1, reckoned from its value: it is doubled until it is at least 1. */
    private static int bitsOfShare(float share) {
        if (share <= 0) {
            return 0;
        }
        int exponent = 127;
        float rest = share;
        for (int i = 0; i < 126 && rest < 1; i++) {
            rest *= 2;
            exponent--;
        }
        return (exponent << 23) + (int) ((rest - 1) * (1 << 23));
    }

    /** The bits of a number that is not negative, reckoned from its value: it is brought to 1 to 2. */
    private static long bitsOfCost(double number) {
        if (number <= 0) {
            return 0;
        }
        long exponent = 1023;
        double rest = number;
        for (int i = 0; i < 1022 && rest < 1; i++) {
            rest *= 2;
            exponent--;
        }
        for (int i = 0; i < 1023 && rest >= 2; i++) {
            rest /= 2;
            exponent++;
        }
        return (exponent << 52) + (long) ((rest - 1) * (1L << 52));
    }

    private static final class Cabin {
        String name = "";
        int seats;
        int spare;
    }

    private static final class Meal {
        String name = "";
        int cabin;
        int share;
        int size;
        int cost;
        int offers;
    }

    /** What the text tells of a flight and no act changes; its rows are used again by a later text. */
    private static final class Plan {
        boolean told;
        int cabins;
        final Cabin[] cabin;
        int meals;
        final Meal[] meal;
        int trolleys;
        final int[] trolleyCabin;
        final int[] trolleySlots;
        int minutes;
        int closing;
        int lead;

        Plan() {
            cabin = new Cabin[MOST_CABINS];
            for (int i = 0; i < MOST_CABINS; i++) {
                cabin[i] = new Cabin();
            }
            meal = new Meal[MOST_MEALS];
            for (int i = 0; i < MOST_MEALS; i++) {
                meal[i] = new Meal();
            }
            trolleyCabin = new int[MOST_TROLLEYS];
            trolleySlots = new int[MOST_TROLLEYS];
        }

        void clear() {
            told = true;
            cabins = 0;
            meals = 0;
            trolleys = 0;
            minutes = 120;
            closing = 30;
            lead = 10;
        }

        int menuOf(int ofCabin) {
            int menu = 0;
            for (int i = 0; i < meals; i++) {
                if (meal[i].cabin == ofCabin) {
                    menu |= 1 << i;
                }
            }
            return menu;
        }

        int trolleysOf(int ofCabin) {
            int found = 0;
            for (int i = 0; i < trolleys; i++) {
                if (trolleyCabin[i] == ofCabin) {
                    found++;
                }
            }
            return found;
        }

        /** Whether passengers and trolleys of this cabin may have the meal. */
        boolean admits(int inCabin, int ofMeal) {
            return meal[ofMeal].cabin == NONE || meal[ofMeal].cabin == inCabin;
        }

        int suiting(int inCabin, int needs) {
            int found = 0;
            for (int i = 0; i < meals; i++) {
                if (admits(inCabin, i) && (needs & ~meal[i].offers) == 0) {
                    found |= 1 << i;
                }
            }
            return found;
        }

        int cheapestOf(int some) {
            int best = NONE;
            for (int i = 0; i < meals; i++) {
                if ((some >> i & 1) == 1 && (best == NONE || meal[i].cost < meal[best].cost)) {
                    best = i;
                }
            }
            return best;
        }
    }

    /** All that an act can change, with the accounts, so that undo and slots copy it whole. */
    private static final class Flight {
        Plan plan;
        boolean served;
        int minutesLeft;
        int passengers;
        final int[] cabinOf;
        final int[] needs;
        final int[] wish;
        final int[][] units;
        int topUps;
        final int[] topUpMeal;
        final int[] topUpUnits;
        final int[] topUpDue;
        final long[] accounts;

        Flight(Plan first) {
            plan = first;
            cabinOf = new int[MOST_PASSENGERS];
            needs = new int[MOST_PASSENGERS];
            wish = new int[MOST_PASSENGERS];
            units = new int[MOST_TROLLEYS][MOST_MEALS];
            topUpMeal = new int[MOST_TOP_UPS];
            topUpUnits = new int[MOST_TOP_UPS];
            topUpDue = new int[MOST_TOP_UPS];
            accounts = new long[ACCOUNTS];
        }

        void clear(Plan its) {
            plan = its;
            served = false;
            passengers = 0;
            topUps = 0;
            for (int t = 0; t < MOST_TROLLEYS; t++) {
                Arrays.fill(units[t], 0);
            }
        }

        void copy(Flight other) {
            plan = other.plan;
            served = other.served;
            minutesLeft = other.minutesLeft;
            passengers = other.passengers;
            System.arraycopy(other.cabinOf, 0, cabinOf, 0, MOST_PASSENGERS);
            System.arraycopy(other.needs, 0, needs, 0, MOST_PASSENGERS);
            System.arraycopy(other.wish, 0, wish, 0, MOST_PASSENGERS);
            for (int t = 0; t < MOST_TROLLEYS; t++) {
                System.arraycopy(other.units[t], 0, units[t], 0, MOST_MEALS);
            }
            topUps = other.topUps;
            System.arraycopy(other.topUpMeal, 0, topUpMeal, 0, MOST_TOP_UPS);
            System.arraycopy(other.topUpUnits, 0, topUpUnits, 0, MOST_TOP_UPS);
            System.arraycopy(other.topUpDue, 0, topUpDue, 0, MOST_TOP_UPS);
            copyAccounts(other);
        }

        void copyAccounts(Flight other) {
            System.arraycopy(other.accounts, 0, accounts, 0, ACCOUNTS);
        }

        int phase() {
            if (!plan.told) {
                return NO_FLIGHT;
            }
            if (served) {
                return SERVED;
            }
            return minutesLeft > plan.closing ? OPEN : CLOSED;
        }

        int passengersIn(int cabin) {
            int found = 0;
            for (int p = 0; p < passengers; p++) {
                if (cabinOf[p] == cabin) {
                    found++;
                }
            }
            return found;
        }

        int specialsIn(int cabin) {
            int found = 0;
            for (int p = 0; p < passengers; p++) {
                if (cabinOf[p] == cabin && needs[p] != 0) {
                    found++;
                }
            }
            return found;
        }

        int freeSeats(int cabin) {
            return plan.cabin[cabin].seats - passengersIn(cabin);
        }

        void seat(int cabin, int itsNeeds, int itsWish) {
            if (passengers < MOST_PASSENGERS) {
                cabinOf[passengers] = cabin;
                needs[passengers] = itsNeeds;
                wish[passengers] = itsWish;
                passengers++;
            }
        }

        void removePassenger(int passenger) {
            for (int p = passenger + 1; p < passengers; p++) {
                cabinOf[p - 1] = cabinOf[p];
                needs[p - 1] = needs[p];
                wish[p - 1] = wish[p];
            }
            passengers--;
        }

        int suiting(int passenger) {
            return plan.suiting(cabinOf[passenger], needs[passenger]);
        }

        int cheapestFor(int passenger) {
            return plan.cheapestOf(suiting(passenger));
        }

        int freeSlots(int trolley) {
            int free = plan.trolleySlots[trolley];
            for (int m = 0; m < plan.meals; m++) {
                free -= units[trolley][m] * plan.meal[m].size;
            }
            return free;
        }

        int freeSlotsIn(int cabin) {
            int free = 0;
            for (int t = 0; t < plan.trolleys; t++) {
                if (plan.trolleyCabin[t] == cabin) {
                    free += freeSlots(t);
                }
            }
            return free;
        }

        int unitsIn(int trolley) {
            int found = 0;
            for (int m = 0; m < plan.meals; m++) {
                found += units[trolley][m];
            }
            return found;
        }

        int loadedOf(int meal) {
            int found = 0;
            for (int t = 0; t < plan.trolleys; t++) {
                found += units[t][meal];
            }
            return found;
        }

        int allLoaded() {
            int found = 0;
            for (int t = 0; t < plan.trolleys; t++) {
                found += unitsIn(t);
            }
            return found;
        }

        int onTheWay(int meal) {
            int found = 0;
            for (int i = 0; i < topUps; i++) {
                if (topUpMeal[i] == meal) {
                    found += topUpUnits[i];
                }
            }
            return found;
        }

        int missing(int meal, int ordered) {
            return Math.max(0, ordered - loadedOf(meal) - onTheWay(meal));
        }

        /** Stores units one by one as long as they find room; answers how many did. */
        int put(int meal, int wanted) {
            int stored = 0;
            int size = plan.meal[meal].size;
            for (int t = 0; t < plan.trolleys; t++) {
                boolean takes = plan.admits(plan.trolleyCabin[t], meal);
                while (takes && stored < wanted && freeSlots(t) >= size) {
                    units[t][meal]++;
                    stored++;
                }
            }
            return stored;
        }

        void takeOut(int meal, int wanted) {
            int rest = wanted;
            for (int t = plan.trolleys - 1; t >= 0; t--) {
                int taken = Math.min(rest, units[t][meal]);
                units[t][meal] -= taken;
                rest -= taken;
            }
        }

        /** All have the same lead time, so those asked for later arrive later: a queue. */
        void askFor(int meal, int wanted) {
            if (topUps < MOST_TOP_UPS) {
                topUpMeal[topUps] = meal;
                topUpUnits[topUps] = wanted;
                topUpDue[topUps] = minutesLeft - plan.lead;
                topUps++;
            }
        }

        /** Lets all arrive that are due by now; answers how many units are sent back. */
        int letArrive() {
            int arrived = 0;
            int sentBack = 0;
            while (arrived < topUps && topUpDue[arrived] >= minutesLeft) {
                sentBack += topUpUnits[arrived] - put(topUpMeal[arrived], topUpUnits[arrived]);
                arrived++;
            }
            for (int i = arrived; i < topUps; i++) {
                topUpMeal[i - arrived] = topUpMeal[i];
                topUpUnits[i - arrived] = topUpUnits[i];
                topUpDue[i - arrived] = topUpDue[i];
            }
            topUps -= arrived;
            return sentBack;
        }
    }

    /** The flights as they were ahead of the latest acts, in a ring. */
    private static final class History {
        final Flight[] past;
        int next;
        int size;

        History(Plan first) {
            past = new Flight[MOST_UNDONE];
            for (int i = 0; i < MOST_UNDONE; i++) {
                past[i] = new Flight(first);
            }
        }

        void add(Flight flight) {
            past[next].copy(flight);
            next = (next + 1) % MOST_UNDONE;
            size = Math.min(size + 1, MOST_UNDONE);
        }

        void takeBack(Flight into) {
            next = (next + MOST_UNDONE - 1) % MOST_UNDONE;
            size--;
            into.copy(past[next]);
        }
    }

    private static final class Order {
        final int[] units;
        final int[] remainder;

        Order() {
            units = new int[MOST_MEALS];
            remainder = new int[MOST_MEALS];
        }

        void reckon(Flight flight) {
            Arrays.fill(units, 0);
            for (int p = 0; p < flight.passengers; p++) {
                if (flight.needs[p] != 0) {
                    int cheapest = flight.cheapestFor(p);
                    if (cheapest != NONE) {
                        units[cheapest]++;
                    }
                }
            }
            for (int c = 0; c < flight.plan.cabins; c++) {
                int plain = flight.passengersIn(c) - flight.specialsIn(c);
                int wanted = (plain * (100 + flight.plan.cabin[c].spare) + 99) / 100;
                if (plain > 0) {
                    divide(flight.plan, c, wanted);
                }
            }
        }

        private void divide(Plan plan, int cabin, int wanted) {
            int shares = 0;
            for (int m = 0; m < plan.meals; m++) {
                shares += plan.meal[m].cabin == cabin ? plan.meal[m].share : 0;
            }
            if (shares < 1) {
                return;
            }
            int rest = wanted;
            for (int m = 0; m < plan.meals; m++) {
                // Less than any remainder, for a meal that gets none of those that are left.
                remainder[m] = NONE;
                if (plan.meal[m].cabin == cabin) {
                    int first = wanted * plan.meal[m].share / shares;
                    remainder[m] = wanted * plan.meal[m].share % shares;
                    units[m] += first;
                    rest -= first;
                }
            }
            for (; rest > 0; rest--) {
                int greatest = greatestRemainder(plan.meals);
                units[greatest]++;
                remainder[greatest] = NONE;
            }
        }

        private int greatestRemainder(int meals) {
            int greatest = 0;
            for (int m = 1; m < meals; m++) {
                if (remainder[m] > remainder[greatest]) {
                    greatest = m;
                }
            }
            return greatest;
        }

        int allUnits() {
            int found = 0;
            for (int m = 0; m < MOST_MEALS; m++) {
                found += units[m];
            }
            return found;
        }

        int slotsOfMenu(Plan plan, int cabin) {
            int slots = 0;
            for (int m = 0; m < plan.meals; m++) {
                if (plan.meal[m].cabin == cabin) {
                    slots += units[m] * plan.meal[m].size;
                }
            }
            return slots;
        }
    }

    /**
     * Matches special passengers with units. First any matching of as many as possible is made; then
     * passenger by passenger gets the first meal with which the others can still be as many.
     */
    private static final class Matching {
        int people;
        int meals;
        final int[] suits;
        final int[] got;
        final int[] free;
        final int[] movable;
        final int[] origin;
        final int[] queue;
        int queued;
        int seen;

        Matching() {
            suits = new int[MOST_PASSENGERS];
            got = new int[MOST_PASSENGERS];
            free = new int[MOST_MEALS];
            movable = new int[MOST_MEALS];
            origin = new int[MOST_MEALS];
            queue = new int[MOST_MEALS];
        }

        private void begin(Flight flight) {
            people = flight.passengers;
            meals = flight.plan.meals;
            for (int m = 0; m < meals; m++) {
                free[m] = flight.loadedOf(m);
            }
            for (int p = 0; p < people; p++) {
                suits[p] = flight.needs[p] == 0 ? 0 : flight.suiting(p);
                got[p] = NONE;
            }
        }

        void match(Flight flight) {
            begin(flight);
            boolean more = true;
            for (int p = 0; p < people && more; p++) {
                more = matchOneMore(0);
            }
            for (int p = 0; p < people; p++) {
                int last = got[p] == NONE ? meals : got[p];
                boolean chosen = false;
                for (int m = 0; m < last && !chosen; m++) {
                    chosen = (suits[p] >> m & 1) == 1 && canHave(p, m);
                }
            }
        }

        /** Gives p the meal if as many can be matched then, and those before p keep theirs. */
        private boolean canHave(int p, int meal) {
            int previous = got[p];
            if (free[meal] > 0) {
                free[meal]--;
                giveBack(previous);
                got[p] = meal;
                return true;
            }
            int other = findMover(p + 1, meal, meal);
            if (other == NONE) {
                return false;
            }
            got[p] = meal;
            got[other] = NONE;
            giveBack(previous);
            if (previous == NONE || matchOneMore(p + 1)) {
                return true;
            }
            free[previous]--;
            got[other] = meal;
            got[p] = previous;
            return false;
        }

        private void giveBack(int meal) {
            if (meal != NONE) {
                free[meal]++;
            }
        }

        /**
         * Matches one more of the passengers from the first on, if that is possible: looks for a chain
         * in which one without a meal takes another's, who takes another's, and so on to a free unit.
         */
        private boolean matchOneMore(int first) {
            Arrays.fill(movable, 0);
            int waiting = 0;
            for (int p = first; p < people; p++) {
                if (got[p] == NONE) {
                    waiting |= suits[p];
                } else {
                    movable[got[p]] |= suits[p];
                }
            }
            queued = 0;
            seen = 0;
            reach(waiting, NONE);
            // Each meal is queued at most once.
            for (int head = 0; head < queued && head < meals; head++) {
                int meal = queue[head];
                if (free[meal] > 0) {
                    moveAlong(first, meal);
                    return true;
                }
                reach(movable[meal], meal);
            }
            return false;
        }

        private void reach(int some, int from) {
            for (int m = 0; m < meals; m++) {
                if (((some & ~seen) >> m & 1) == 1) {
                    seen |= 1 << m;
                    origin[m] = from;
                    queue[queued] = m;
                    queued++;
                }
            }
        }

        private void moveAlong(int first, int end) {
            free[end]--;
            int to = end;
            // A chain goes through each meal at most once.
            for (int step = 0; step < meals && to != NONE; step++) {
                int from = origin[to];
                int mover = findMover(first, from, to);
                if (mover != NONE) {
                    got[mover] = to;
                }
                to = from;
            }
        }

        /** The first passenger who has the one meal (NONE: none) and whom the other suits. */
        private int findMover(int first, int has, int to) {
            for (int p = first; p < people; p++) {
                if (got[p] == has && (suits[p] >> to & 1) == 1) {
                    return p;
                }
            }
            return NONE;
        }
    }

    private static final class Service {
        final int[] got;
        final int[] rest;
        final int[] eaten;
        int specialsFed;
        int fed;
        int wasted;
        int wastedCost;
        int wishesMet;

        Service() {
            got = new int[MOST_PASSENGERS];
            rest = new int[MOST_MEALS];
            eaten = new int[MOST_MEALS];
        }

        void reckon(Flight flight, int[] matched) {
            fed = 0;
            wishesMet = 0;
            Arrays.fill(eaten, 0);
            for (int m = 0; m < flight.plan.meals; m++) {
                rest[m] = flight.loadedOf(m);
            }
            for (int p = 0; p < flight.passengers; p++) {
                give(p, matched[p]);
            }
            specialsFed = fed;
            servePlain(flight);
            addUpWaste(flight.plan);
        }

        private void servePlain(Flight flight) {
            for (int p = 0; p < flight.passengers; p++) {
                if (flight.needs[p] == 0) {
                    int wish = flight.wish[p];
                    boolean met = wish != NONE && rest[wish] > 0;
                    give(p, met ? wish : mostLeft(flight.plan, flight.cabinOf[p]));
                    wishesMet += met ? 1 : 0;
                }
            }
        }

        private int mostLeft(Plan plan, int cabin) {
            int best = NONE;
            for (int m = 0; m < plan.meals; m++) {
                if (plan.meal[m].cabin == cabin && rest[m] > (best == NONE ? 0 : rest[best])) {
                    best = m;
                }
            }
            return best;
        }

        private void give(int p, int meal) {
            got[p] = meal;
            if (meal != NONE) {
                rest[meal]--;
                eaten[meal]++;
                fed++;
            }
        }

        private void addUpWaste(Plan plan) {
            wasted = 0;
            wastedCost = 0;
            for (int m = 0; m < plan.meals; m++) {
                wasted += rest[m];
                wastedCost += rest[m] * plan.meal[m].cost;
            }
        }
    }

    /** Cuts a text into tokens; the token at hand is the latest one. */
    private static final class Tokens {
        static final int END = 0;
        static final int WORD = 1;
        static final int NUMBER = 2;
        static final int SIGN = 3;
        static final int WRONG = 4;
        static final int MOST_DIGITS = 4;

        byte[] text = new byte[0];
        int length;
        int start;
        int behind;
        int kind;
        int number;

        void begin(byte[] source, int textLength) {
            text = source;
            length = Math.min(textLength, source.length);
            behind = 0;
        }

        void next() {
            while (behind < length && (text[behind] == ' ' || text[behind] == '\n')) {
                behind++;
            }
            start = behind;
            if (behind >= length) {
                kind = END;
                return;
            }
            kind = kindOf(text[behind]);
            behind++;
            if (kind == WORD || kind == NUMBER) {
                while (behind < length && kindOf(text[behind]) == kind) {
                    behind++;
                }
            }
            if (kind == NUMBER) {
                readNumber();
            }
        }

        /** A number that is too long is allowed nowhere, so it counts as wrong whatever it tells. */
        private void readNumber() {
            if (behind - start > MOST_DIGITS) {
                kind = WRONG;
                return;
            }
            number = 0;
            for (int i = start; i < behind; i++) {
                number = number * 10 + (text[i] - '0');
            }
        }

        private static int kindOf(byte sign) {
            if (sign >= 'a' && sign <= 'z') {
                return WORD;
            }
            if (sign >= '0' && sign <= '9') {
                return NUMBER;
            }
            return sign == ';' ? SIGN : WRONG;
        }

        boolean is(String word) {
            if (kind != WORD || behind - start != word.length()) {
                return false;
            }
            for (int i = 0; i < word.length(); i++) {
                if (text[start + i] != word.charAt(i)) {
                    return false;
                }
            }
            return true;
        }

        int size() {
            return behind - start;
        }

        String word() {
            char[] letters = new char[size()];
            for (int i = 0; i < letters.length; i++) {
                letters[i] = (char) text[start + i];
            }
            return new String(letters);
        }
    }

    /**
     * Reads a text into a flight. Each part is checked when its token is at hand, so the first error
     * that is found is the one with the least position; of one token the lesser codes are checked first.
     */
    private static final class FlightText {
        static final int SYNTAX = 1;
        static final int RANGE = 2;
        static final int NAME = 3;
        static final int LIMIT = 4;
        static final int SEATS = 5;
        static final int LONGEST_NAME = 6;
        static final int DIETS = 8;

        final Tokens tokens;
        Flight flight;
        Plan plan;
        int error;
        int errorAt;

        FlightText() {
            tokens = new Tokens();
        }

        boolean read(byte[] text, int length, Flight into, Plan intoPlan) {
            flight = into;
            plan = intoPlan;
            plan.clear();
            flight.clear(plan);
            error = 0;
            errorAt = NONE;
            tokens.begin(text, length);
            tokens.next();
            boolean right = true;
            // Each statement takes more than a byte, so the length bounds their number.
            for (int i = 0; i <= length && right && tokens.kind != Tokens.END; i++) {
                right = readStatement();
                if (right) {
                    tokens.next();
                }
            }
            flight.minutesLeft = plan.minutes;
            return right;
        }

        /** Reads from the word at hand to the sign at the end, which is at hand then. */
        private boolean readStatement() {
            if (tokens.is("time")) {
                return readTime();
            }
            if (tokens.is("lead")) {
                return readLead();
            }
            if (tokens.is("cabin")) {
                return readCabin();
            }
            if (tokens.is("meal")) {
                return readMeal();
            }
            if (tokens.is("trolley")) {
                return readTrolley();
            }
            if (tokens.is("guests")) {
                return readGuests();
            }
            if (tokens.is("guest")) {
                return readGuest();
            }
            return fail(SYNTAX);
        }

        private boolean readTime() {
            int minutes = nextNumber(1, 999);
            if (minutes == NONE) {
                return false;
            }
            int closing = nextNumber(0, 999);
            if (closing == NONE) {
                return false;
            }
            plan.minutes = minutes;
            plan.closing = closing;
            tokens.next();
            return signHere();
        }

        private boolean readLead() {
            int lead = nextNumber(0, 99);
            if (lead == NONE) {
                return false;
            }
            plan.lead = lead;
            tokens.next();
            return signHere();
        }

        private boolean readCabin() {
            if (plan.cabins >= MOST_CABINS) {
                return fail(LIMIT);
            }
            tokens.next();
            if (!nameHere()) {
                return fail(SYNTAX);
            }
            if (cabinHere() != NONE) {
                return fail(NAME);
            }
            Cabin row = plan.cabin[plan.cabins];
            row.name = tokens.word();
            row.seats = nextNumber(1, 40);
            if (row.seats == NONE) {
                return false;
            }
            row.spare = 0;
            tokens.next();
            if (tokens.kind == Tokens.NUMBER) {
                row.spare = numberHere(0, 50);
                if (row.spare == NONE) {
                    return false;
                }
                tokens.next();
            }
            plan.cabins++;
            return signHere();
        }

        private boolean readMeal() {
            if (plan.meals >= MOST_MEALS) {
                return fail(LIMIT);
            }
            tokens.next();
            if (!nameHere()) {
                return fail(SYNTAX);
            }
            if (mealHere() != NONE) {
                return fail(NAME);
            }
            Meal row = plan.meal[plan.meals];
            row.name = tokens.word();
            if (!readPlace(row)) {
                return false;
            }
            row.size = nextNumber(1, 3);
            if (row.size == NONE) {
                return false;
            }
            row.cost = nextNumber(1, 9999);
            if (row.cost == NONE) {
                return false;
            }
            row.offers = 0;
            tokens.next();
            if (tokens.is("offers")) {
                row.offers = nextDiets();
                if (row.offers == NONE) {
                    return false;
                }
                tokens.next();
            }
            plan.meals++;
            return signHere();
        }

        private boolean readPlace(Meal row) {
            row.cabin = NONE;
            row.share = 0;
            tokens.next();
            if (tokens.is("special")) {
                return true;
            }
            if (!tokens.is("menu")) {
                return fail(SYNTAX);
            }
            row.cabin = nextCabin();
            if (row.cabin == NONE) {
                return false;
            }
            row.share = nextNumber(1, 99);
            return row.share != NONE;
        }

        private boolean readTrolley() {
            if (plan.trolleys >= MOST_TROLLEYS) {
                return fail(LIMIT);
            }
            int cabin = nextCabin();
            if (cabin == NONE) {
                return false;
            }
            int slots = nextNumber(1, 40);
            if (slots == NONE) {
                return false;
            }
            plan.trolleyCabin[plan.trolleys] = cabin;
            plan.trolleySlots[plan.trolleys] = slots;
            plan.trolleys++;
            tokens.next();
            return signHere();
        }

        private boolean readGuests() {
            int cabin = nextCabin();
            if (cabin == NONE) {
                return false;
            }
            int guests = nextNumber(1, 40);
            if (guests == NONE) {
                return false;
            }
            if (guests > flight.freeSeats(cabin) || flight.passengers + guests > MOST_PASSENGERS) {
                return fail(SEATS);
            }
            for (int i = 0; i < guests; i++) {
                flight.seat(cabin, 0, NONE);
            }
            tokens.next();
            return signHere();
        }

        private boolean readGuest() {
            if (flight.passengers >= MOST_PASSENGERS) {
                return fail(LIMIT);
            }
            int cabin = nextCabin();
            if (cabin == NONE) {
                return false;
            }
            if (flight.freeSeats(cabin) < 1) {
                return fail(SEATS);
            }
            int needs = 0;
            int wish = NONE;
            tokens.next();
            if (tokens.is("needs")) {
                needs = nextDiets();
                if (needs == NONE) {
                    return false;
                }
                tokens.next();
            }
            if (tokens.is("wish")) {
                wish = nextWish(cabin);
                if (wish == NONE) {
                    return false;
                }
                tokens.next();
            }
            flight.seat(cabin, needs, wish);
            return signHere();
        }

        /** The number that comes next, or NONE if there is an error. */
        private int nextNumber(int least, int most) {
            tokens.next();
            return numberHere(least, most);
        }

        private int numberHere(int least, int most) {
            if (tokens.kind != Tokens.NUMBER) {
                fail(SYNTAX);
                return NONE;
            }
            if (tokens.number < least || tokens.number > most) {
                fail(RANGE);
                return NONE;
            }
            return tokens.number;
        }

        /** The cabin whose name comes next, or NONE if there is an error. */
        private int nextCabin() {
            tokens.next();
            int cabin = cabinHere();
            if (cabin == NONE) {
                fail(tokens.kind == Tokens.WORD ? NAME : SYNTAX);
            }
            return cabin;
        }

        /** The meal on the menu of the cabin whose name comes next, or NONE if there is an error. */
        private int nextWish(int cabin) {
            tokens.next();
            int meal = mealHere();
            if (meal == NONE || plan.meal[meal].cabin != cabin) {
                fail(tokens.kind == Tokens.WORD ? NAME : SYNTAX);
                return NONE;
            }
            return meal;
        }

        /** The diets that come next, as a bit set, or NONE if there is an error. */
        private int nextDiets() {
            tokens.next();
            int diets = tokens.kind == Tokens.WORD ? 0 : NONE;
            for (int i = tokens.start; i < tokens.behind && diets != NONE; i++) {
                int diet = tokens.text[i] - 'a';
                boolean fresh = diet < DIETS && (diets >> diet & 1) == 0;
                diets = fresh ? diets | 1 << diet : NONE;
            }
            if (diets == NONE) {
                fail(SYNTAX);
            }
            return diets;
        }

        private boolean nameHere() {
            return tokens.kind == Tokens.WORD && tokens.size() <= LONGEST_NAME;
        }

        private int cabinHere() {
            for (int i = 0; i < plan.cabins; i++) {
                if (tokens.is(plan.cabin[i].name)) {
                    return i;
                }
            }
            return NONE;
        }

        private int mealHere() {
            for (int i = 0; i < plan.meals; i++) {
                if (tokens.is(plan.meal[i].name)) {
                    return i;
                }
            }
            return NONE;
        }

        private boolean signHere() {
            return tokens.kind == Tokens.SIGN || fail(SYNTAX);
        }

        private boolean fail(int code) {
            error = code;
            errorAt = tokens.start;
            return false;
        }
    }
}
