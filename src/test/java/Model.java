import java.util.ArrayDeque;
import java.util.ArrayList;
import java.util.Arrays;
import java.util.Comparator;
import java.util.List;
import java.util.NoSuchElementException;

/**
 * The document once more, written plainly and slowly with the Java library, to compare MealLoader with: no code is
 * shared, units are stored and matched one by one, and the text is cut into a list of tokens first.
 */
final class Model {
    static final int NONE = -1;

    private record Cabin(String name, int seats, int spare) { }

    private record Meal(String name, int cabin, int share, int size, int cost, int offers) { }

    private record Trolley(int cabin, int slots, List<Integer> load) { }

    private record Guest(int cabin, int needs, int wish) { }

    private record TopUp(int meal, int units, int due) { }

    private record Token(int at, String text) { }

    private static final class Wrong extends RuntimeException {
        final int code;
        final int at;

        Wrong(int code, int at) {
            this.code = code;
            this.at = at;
        }
    }

    private static final class State {
        boolean flight;
        boolean served;
        int left;
        int closing;
        int lead;
        List<Cabin> cabins = new ArrayList<>();
        List<Meal> meals = new ArrayList<>();
        List<Trolley> trolleys = new ArrayList<>();
        List<Guest> guests = new ArrayList<>();
        List<TopUp> topUps = new ArrayList<>();
        long[] accounts = new long[6];

        State twin() {
            State s = new State();
            s.flight = flight;
            s.served = served;
            s.left = left;
            s.closing = closing;
            s.lead = lead;
            s.cabins.addAll(cabins);
            s.meals.addAll(meals);
            for (Trolley t : trolleys) {
                s.trolleys.add(new Trolley(t.cabin, t.slots, new ArrayList<>(t.load)));
            }
            s.guests.addAll(guests);
            s.topUps.addAll(topUps);
            s.accounts = accounts.clone();
            return s;
        }

        int phase() {
            return !flight ? 0 : served ? 3 : left > closing ? 1 : 2;
        }

        int free(Trolley t) {
            return t.slots - t.load.stream().mapToInt(m -> meals.get(m).size).sum();
        }

        boolean storeUnit(int meal) {
            for (Trolley t : trolleys) {
                int home = meals.get(meal).cabin;
                if ((home == NONE || home == t.cabin) && free(t) >= meals.get(meal).size) {
                    t.load.add(meal);
                    return true;
                }
            }
            return false;
        }

        int loaded(int meal) {
            return (int) trolleys.stream().flatMap(t -> t.load.stream()).filter(m -> m == meal).count();
        }

        boolean suits(int meal, Guest g) {
            Meal m = meals.get(meal);
            return (m.cabin == NONE || m.cabin == g.cabin) && (m.offers & g.needs) == g.needs;
        }

        int cheapest(Guest g) {
            int best = NONE;
            for (int m = meals.size() - 1; m >= 0; m--) {
                if (suits(m, g) && (best == NONE || meals.get(m).cost <= meals.get(best).cost)) {
                    best = m;
                }
            }
            return best;
        }

        int inCabin(int cabin) {
            return (int) guests.stream().filter(g -> g.cabin == cabin).count();
        }

        int[] order() {
            int[] order = new int[meals.size()];
            for (Guest g : guests) {
                if (g.needs != 0 && cheapest(g) != NONE) {
                    order[cheapest(g)]++;
                }
            }
            for (int c = 0; c < cabins.size(); c++) {
                int cabin = c;
                int n = (int) guests.stream().filter(g -> g.cabin == cabin && g.needs == 0).count();
                List<Integer> menu = new ArrayList<>();
                for (int m = 0; m < meals.size(); m++) {
                    if (meals.get(m).cabin == c) {
                        menu.add(m);
                    }
                }
                if (n > 0 && !menu.isEmpty()) {
                    int units = (n * (100 + cabins.get(c).spare) + 99) / 100;
                    int sum = menu.stream().mapToInt(m -> meals.get(m).share).sum();
                    int left = units;
                    for (int m : menu) {
                        order[m] += units * meals.get(m).share / sum;
                        left -= units * meals.get(m).share / sum;
                    }
                    menu.sort(Comparator.comparingInt(m -> -(units * meals.get(m).share % sum)));
                    for (int i = 0; i < left; i++) {
                        order[menu.get(i)]++;
                    }
                }
            }
            return order;
        }

        int missing(int meal) {
            int coming = topUps.stream().filter(t -> t.meal == meal).mapToInt(TopUp::units).sum();
            return Math.max(0, order()[meal] - loaded(meal) - coming);
        }

        /** How many of the special guests from the first on can have a unit of what is left. */
        int most(int first, int[] left) {
            List<Integer> units = new ArrayList<>();
            for (int m = 0; m < left.length; m++) {
                for (int i = 0; i < Math.min(left[m], 40); i++) {
                    units.add(m);
                }
            }
            int[] owner = new int[units.size()];
            Arrays.fill(owner, NONE);
            int found = 0;
            for (int g = first; g < guests.size(); g++) {
                if (guests.get(g).needs != 0 && place(g, units, owner, new boolean[meals.size()])) {
                    found++;
                }
            }
            return found;
        }

        private boolean place(int g, List<Integer> units, int[] owner, boolean[] seen) {
            for (int m = 0; m < meals.size(); m++) {
                if (seen[m] || !suits(m, guests.get(g))) {
                    continue;
                }
                seen[m] = true;
                for (int u = 0; u < owner.length; u++) {
                    if (units.get(u) == m && owner[u] == NONE) {
                        owner[u] = g;
                        return true;
                    }
                }
                for (int u = 0; u < owner.length; u++) {
                    if (units.get(u) == m && place(owner[u], units, owner, seen)) {
                        owner[u] = g;
                        return true;
                    }
                }
            }
            return false;
        }

        int[] service() {
            int[] got = new int[guests.size()];
            Arrays.fill(got, NONE);
            int[] left = new int[meals.size()];
            for (int m = 0; m < left.length; m++) {
                left[m] = loaded(m);
            }
            int due = most(0, left);
            for (int g = 0; g < got.length; g++) {
                for (int m = 0; m < left.length && guests.get(g).needs != 0 && got[g] == NONE; m++) {
                    if (left[m] > 0 && suits(m, guests.get(g))) {
                        left[m]--;
                        if (1 + most(g + 1, left) == due) {
                            got[g] = m;
                            due--;
                        } else {
                            left[m]++;
                        }
                    }
                }
            }
            for (int g = 0; g < got.length; g++) {
                Guest guest = guests.get(g);
                if (guest.needs == 0 && guest.wish != NONE && left[guest.wish] > 0) {
                    got[g] = guest.wish;
                } else if (guest.needs == 0) {
                    for (int m = 0; m < left.length; m++) {
                        boolean menu = meals.get(m).cabin == guest.cabin;
                        if (menu && left[m] > 0 && (got[g] == NONE || left[m] > left[got[g]])) {
                            got[g] = m;
                        }
                    }
                }
                if (guest.needs == 0 && got[g] != NONE) {
                    left[got[g]]--;
                }
            }
            return got;
        }

        int arrive() {
            int back = 0;
            while (!topUps.isEmpty() && topUps.get(0).due >= left) {
                TopUp t = topUps.remove(0);
                for (int i = 0; i < t.units; i++) {
                    back += storeUnit(t.meal) ? 0 : 1;
                }
            }
            return back;
        }
    }

    private State now = new State();
    private byte[] input = new byte[0];
    private byte[] output = new byte[0];
    private int code = 0;
    private int at = -1;
    private int why = 0;
    private final ArrayDeque<State> past = new ArrayDeque<>();
    private final State[] slots = new State[2];

    int feed(int a, int b, int c, int d, int e) {
        if (input.length + 20 > 900) {
            throw new IllegalStateException();
        }
        input = Arrays.copyOf(input, input.length + 20);
        java.nio.ByteBuffer.wrap(input, input.length - 20, 20).putInt(a).putInt(b).putInt(c).putInt(d).putInt(e);
        return input.length;
    }

    int load(int length) {
        if (length < 0 || length > input.length) {
            throw new IllegalArgumentException();
        }
        byte[] text = Arrays.copyOf(input, length);
        input = new byte[0];
        try {
            State s = new Reader(text).read();
            s.accounts = now.accounts;
            now = s;
        } catch (Wrong e) {
            code = e.code;
            at = e.at;
            throw new IllegalStateException();
        }
        code = 0;
        at = -1;
        why = 0;
        past.clear();
        slots[0] = null;
        slots[1] = null;
        return now.guests.size();
    }

    private static final class Reader {
        final List<Token> tokens = new ArrayList<>();
        final int end;
        int next = 0;

        Reader(byte[] text) {
            String all = new String(text, java.nio.charset.StandardCharsets.ISO_8859_1);
            java.util.regex.Matcher m = java.util.regex.Pattern.compile("[a-z]+|[0-9]+|[^ \n]").matcher(all);
            while (m.find()) {
                tokens.add(new Token(m.start(), m.group()));
            }
            end = text.length;
        }

        Token take() {
            return next < tokens.size() ? tokens.get(next++) : new Token(end, "");
        }

        boolean nextIs(String text) {
            return next < tokens.size() && tokens.get(next).text.equals(text);
        }

        Token word() {
            Token t = take();
            if (!t.text.matches("[a-z]+")) {
                throw new Wrong(1, t.at);
            }
            return t;
        }

        int number(int least, int most) {
            Token t = take();
            if (!t.text.matches("[0-9]{1,4}")) {
                throw new Wrong(1, t.at);
            }
            int n = Integer.parseInt(t.text);
            if (n < least || n > most) {
                throw new Wrong(2, t.at);
            }
            return n;
        }

        int diets() {
            Token t = word();
            if (!t.text.matches("[a-h]+") || t.text.chars().distinct().count() < t.text.length()) {
                throw new Wrong(1, t.at);
            }
            return t.text.chars().map(c -> 1 << c - 'a').sum();
        }

        String name(List<String> others) {
            Token t = word();
            if (t.text.length() > 6) {
                throw new Wrong(1, t.at);
            }
            if (others.contains(t.text)) {
                throw new Wrong(3, t.at);
            }
            return t.text;
        }

        int find(List<String> names) {
            Token t = word();
            if (!names.contains(t.text)) {
                throw new Wrong(3, t.at);
            }
            return names.indexOf(t.text);
        }

        State read() {
            State s = new State();
            s.flight = true;
            s.left = 120;
            s.closing = 30;
            s.lead = 10;
            while (next < tokens.size()) {
                statement(s);
                Token t = take();
                if (!t.text.equals(";")) {
                    throw new Wrong(1, t.at);
                }
            }
            return s;
        }

        void statement(State s) {
            List<String> cabins = s.cabins.stream().map(Cabin::name).toList();
            List<String> meals = s.meals.stream().map(Meal::name).toList();
            Token t = take();
            switch (t.text) {
                case "time" -> {
                    s.left = number(1, 999);
                    s.closing = number(0, 999);
                }
                case "lead" -> s.lead = number(0, 99);
                case "cabin" -> {
                    limit(s.cabins.size() == 4, t);
                    String name = name(cabins);
                    int seats = number(1, 40);
                    boolean more = next < tokens.size() && Character.isDigit(tokens.get(next).text.charAt(0));
                    s.cabins.add(new Cabin(name, seats, more ? number(0, 50) : 0));
                }
                case "meal" -> meal(s, t, cabins, meals);
                case "trolley" -> {
                    limit(s.trolleys.size() == 8, t);
                    s.trolleys.add(new Trolley(find(cabins), number(1, 40), new ArrayList<>()));
                }
                case "guests" -> {
                    int cabin = find(cabins);
                    int place = next < tokens.size() ? tokens.get(next).at : end;
                    int count = number(1, 40);
                    if (count > s.cabins.get(cabin).seats - s.inCabin(cabin) || s.guests.size() + count > 40) {
                        throw new Wrong(5, place);
                    }
                    for (int i = 0; i < count; i++) {
                        s.guests.add(new Guest(cabin, 0, NONE));
                    }
                }
                case "guest" -> guest(s, t, cabins, meals);
                default -> throw new Wrong(1, t.at);
            }
        }

        void limit(boolean reached, Token t) {
            if (reached) {
                throw new Wrong(4, t.at);
            }
        }

        void meal(State s, Token t, List<String> cabins, List<String> meals) {
            limit(s.meals.size() == 12, t);
            String name = name(meals);
            Token kind = word();
            int cabin = NONE;
            int share = 0;
            if (kind.text.equals("menu")) {
                cabin = find(cabins);
                share = number(1, 99);
            } else if (!kind.text.equals("special")) {
                throw new Wrong(1, kind.at);
            }
            int size = number(1, 3);
            int cost = number(1, 9999);
            int offers = 0;
            if (nextIs("offers")) {
                take();
                offers = diets();
            }
            s.meals.add(new Meal(name, cabin, share, size, cost, offers));
        }

        void guest(State s, Token t, List<String> cabins, List<String> meals) {
            limit(s.guests.size() == 40, t);
            int place = next < tokens.size() ? tokens.get(next).at : end;
            int cabin = find(cabins);
            if (s.inCabin(cabin) == s.cabins.get(cabin).seats) {
                throw new Wrong(5, place);
            }
            int needs = 0;
            int wish = NONE;
            if (nextIs("needs")) {
                take();
                needs = diets();
            }
            if (nextIs("wish")) {
                take();
                place = next < tokens.size() ? tokens.get(next).at : end;
                wish = find(meals);
                if (s.meals.get(wish).cabin != cabin) {
                    throw new Wrong(3, place);
                }
            }
            s.guests.add(new Guest(cabin, needs, wish));
        }
    }

    int errorCode() {
        return code;
    }

    int errorPosition() {
        return at;
    }

    private static int pick(int what, int... values) {
        if (what < 0 || what >= values.length) {
            throw new IllegalArgumentException();
        }
        return values[what];
    }

    private static void among(int number, int size) {
        if (number < 0 || number >= size) {
            throw new NoSuchElementException();
        }
    }

    private static void between(int number, int least, int most) {
        if (number < least || number > most) {
            throw new IllegalArgumentException();
        }
    }

    private void refuseIf(boolean refused, int reason) {
        if (refused) {
            why = reason;
            throw new IllegalStateException();
        }
    }

    private void flying() {
        refuseIf(now.phase() == 0 || now.phase() == 3, 1);
    }

    private void act() {
        past.push(now.twin());
        if (past.size() > 12) {
            past.removeLast();
        }
    }

    private int allLoaded() {
        return now.trolleys.stream().mapToInt(t -> t.load.size()).sum();
    }

    int count(int what) {
        return pick(what, now.phase(), now.cabins.size(), now.meals.size(), now.guests.size(), now.trolleys.size(),
            now.left, now.topUps.size(), allLoaded(), Arrays.stream(now.order()).sum(), past.size(), now.closing,
            now.lead);
    }

    int cabin(int cabin, int what) {
        among(cabin, now.cabins.size());
        Cabin c = now.cabins.get(cabin);
        int menu = 0;
        int slots = 0;
        for (int m = 0; m < now.meals.size(); m++) {
            if (now.meals.get(m).cabin == cabin) {
                menu += 1 << m;
                slots += now.order()[m] * now.meals.get(m).size;
            }
        }
        return pick(what, c.seats, c.spare, now.inCabin(cabin),
            (int) now.guests.stream().filter(g -> g.cabin == cabin && g.needs != 0).count(),
            (int) now.trolleys.stream().filter(t -> t.cabin == cabin).count(),
            now.trolleys.stream().filter(t -> t.cabin == cabin).mapToInt(now::free).sum(), menu, slots);
    }

    int meal(int meal, int what) {
        among(meal, now.meals.size());
        Meal m = now.meals.get(meal);
        int eaten = now.served ? (int) Arrays.stream(now.service()).filter(g -> g == meal).count() : 0;
        int coming = now.topUps.stream().filter(t -> t.meal == meal).mapToInt(TopUp::units).sum();
        return pick(what, m.cabin, m.share, m.size, m.cost, m.offers, now.loaded(meal), now.order()[meal], coming,
            eaten, now.missing(meal));
    }

    int passenger(int passenger, int what) {
        among(passenger, now.guests.size());
        Guest g = now.guests.get(passenger);
        int suits = 0;
        for (int m = 0; m < now.meals.size(); m++) {
            suits += now.suits(m, g) ? 1 << m : 0;
        }
        return pick(what, g.cabin, g.needs, g.wish, now.served ? now.service()[passenger] : NONE, suits,
            now.cheapest(g));
    }

    int trolley(int trolley, int what) {
        among(trolley, now.trolleys.size());
        Trolley t = now.trolleys.get(trolley);
        return pick(what, t.cabin, t.slots, now.free(t), t.load.size());
    }

    int held(int trolley, int meal) {
        among(trolley, now.trolleys.size());
        among(meal, now.meals.size());
        return (int) now.trolleys.get(trolley).load.stream().filter(m -> m == meal).count();
    }

    int topUpAt(int index, int what) {
        if (index < 0 || index >= now.topUps.size()) {
            throw new IndexOutOfBoundsException();
        }
        TopUp t = now.topUps.get(index);
        return pick(what, t.meal, t.units, t.due);
    }

    int board(int cabin, int needs, int wish) {
        among(cabin, now.cabins.size());
        if (wish != NONE) {
            among(wish, now.meals.size());
        }
        between(needs, 0, 255);
        if (wish != NONE && now.meals.get(wish).cabin != cabin) {
            throw new IllegalArgumentException();
        }
        flying();
        refuseIf(now.guests.size() == 40, 8);
        refuseIf(now.inCabin(cabin) == now.cabins.get(cabin).seats, 9);
        act();
        now.guests.add(new Guest(cabin, needs, wish));
        return now.guests.size() - 1;
    }

    int change(int passenger, int cabin) {
        among(passenger, now.guests.size());
        among(cabin, now.cabins.size());
        Guest g = now.guests.get(passenger);
        if (g.cabin == cabin) {
            throw new IllegalArgumentException();
        }
        flying();
        refuseIf(now.inCabin(cabin) == now.cabins.get(cabin).seats, 9);
        act();
        now.guests.set(passenger, new Guest(cabin, g.needs, NONE));
        return g.cabin;
    }

    int leave(int passenger) {
        among(passenger, now.guests.size());
        flying();
        act();
        now.guests.remove(passenger);
        return now.guests.size();
    }

    int setNeeds(int passenger, int needs) {
        among(passenger, now.guests.size());
        between(needs, 0, 255);
        flying();
        act();
        Guest g = now.guests.get(passenger);
        now.guests.set(passenger, new Guest(g.cabin, needs, g.wish));
        return g.needs;
    }

    int loadOrder() {
        flying();
        refuseIf(now.phase() == 2, 2);
        State before = now.twin();
        int stored = 0;
        for (int m = 0; m < now.meals.size(); m++) {
            int missing = before.missing(m);
            for (int i = 0; i < missing; i++) {
                if (!now.storeUnit(m)) {
                    now = before;
                    refuseIf(true, 3);
                }
                stored++;
            }
        }
        State after = now;
        now = before;
        act();
        now = after;
        return stored;
    }

    int store(int meal, int units) {
        among(meal, now.meals.size());
        between(units, 1, 99);
        flying();
        refuseIf(now.phase() == 2, 2);
        State before = now.twin();
        for (int i = 0; i < units; i++) {
            if (!now.storeUnit(meal)) {
                now = before;
                refuseIf(true, 3);
            }
        }
        State after = now;
        now = before;
        act();
        now = after;
        return now.loaded(meal);
    }

    int unload(int meal, int units) {
        among(meal, now.meals.size());
        between(units, 1, 99);
        flying();
        refuseIf(now.loaded(meal) < units, 4);
        act();
        for (int i = 0; i < units; i++) {
            int t = now.trolleys.size() - 1;
            while (!now.trolleys.get(t).load.remove((Integer) meal)) {
                t--;
            }
        }
        return now.loaded(meal);
    }

    int topUp(int meal, int units) {
        among(meal, now.meals.size());
        between(units, 1, 99);
        flying();
        refuseIf(now.topUps.size() == 6, 5);
        refuseIf(now.left < now.lead, 6);
        act();
        now.topUps.add(new TopUp(meal, units, now.left - now.lead));
        now.arrive();
        return now.topUps.size();
    }

    int advance(int minutes) {
        between(minutes, 1, 999);
        flying();
        refuseIf(now.left < minutes, 7);
        act();
        int back = 0;
        for (int i = 0; i < minutes; i++) {
            now.left--;
            back += now.arrive();
        }
        return back;
    }

    int reason() {
        return why;
    }

    int outlook(int what) {
        int[] got = now.service();
        int specials = 0;
        int fed = 0;
        int wishes = 0;
        int[] rest = new int[now.meals.size()];
        for (int m = 0; m < rest.length; m++) {
            rest[m] = now.loaded(m);
        }
        for (int g = 0; g < got.length; g++) {
            if (got[g] != NONE) {
                fed++;
                rest[got[g]]--;
                specials += now.guests.get(g).needs != 0 ? 1 : 0;
                wishes += now.guests.get(g).needs == 0 && now.guests.get(g).wish == got[g] ? 1 : 0;
            }
        }
        int cost = 0;
        for (int m = 0; m < rest.length; m++) {
            cost += rest[m] * now.meals.get(m).cost;
        }
        return pick(what, specials, fed, got.length - fed, Arrays.stream(rest).sum(), cost, wishes);
    }

    int mealFor(int passenger) {
        among(passenger, now.guests.size());
        return now.service()[passenger];
    }

    int serve() {
        flying();
        act();
        int[] sums = {allLoaded(), outlook(1), outlook(3), outlook(4), outlook(2), 1};
        for (int i = 0; i < 6; i++) {
            now.accounts[i] += sums[i];
        }
        now.served = true;
        now.left = 0;
        now.topUps.clear();
        return sums[1];
    }

    long account(int what) {
        between(what, 0, 5);
        return now.accounts[what];
    }

    float wasteShare() {
        return now.accounts[0] == 0 ? 0 : (float) now.accounts[2] / (float) now.accounts[0];
    }

    int wasteBits() {
        return Float.floatToIntBits(wasteShare());
    }

    long costBits() {
        return now.accounts[5] == 0 ? 0
            : Double.doubleToLongBits((double) now.accounts[3] / (double) now.accounts[5]);
    }

    int undo() {
        if (past.isEmpty()) {
            throw new IllegalStateException();
        }
        now = past.pop();
        return past.size();
    }

    int keep(int slot) {
        between(slot, 0, 1);
        slots[slot] = now.twin();
        return now.phase();
    }

    int restore(int slot) {
        between(slot, 0, 1);
        if (slots[slot] == null) {
            throw new NoSuchElementException();
        }
        now = slots[slot].twin();
        past.clear();
        return now.phase();
    }

    int writeTrolley(int trolley) {
        among(trolley, now.trolleys.size());
        List<String> parts = new ArrayList<>();
        for (int m = 0; m < now.meals.size(); m++) {
            if (held(trolley, m) > 0) {
                parts.add(held(trolley, m) + "x" + now.meals.get(m).name);
            }
        }
        output = (String.join(" ", parts) + "\n").getBytes(java.nio.charset.StandardCharsets.ISO_8859_1);
        return output.length;
    }

    int outputByte(int index) {
        if (index < 0 || index >= output.length) {
            throw new IndexOutOfBoundsException();
        }
        return output[index];
    }
}
