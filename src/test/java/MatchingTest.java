import java.util.Arrays;

/**
 * Promises 23 and 24, the special passengers: small flights against all ways to match that there are, in their order;
 * many flights on which each passenger has a diet of its own, so that any meals may suit, against a plain reckoning; and
 * full ones against the Model. The numbers come from a row that is always the same.
 */
final class MatchingTest {
    private static long row = 7;

    private static int below(int bound) {
        row = row * 6364136223846793005L + 1442695040888963407L;
        return (int) ((row >>> 33) % bound);
    }

    public static void main(String[] args) {
        for (int run = 0; run < 1500; run++) {
            small(run, 1 + below(6), 1 + below(4));
        }
        for (int run = 0; run < 40000; run++) {
            ownDiets(run, 5 + below(4), 4 + below(9));
        }
        for (int run = 0; run < 150; run++) {
            full(run, 20 + below(21), 4 + below(9));
        }
        Script.end();
    }

    private static void small(int run, int people, int meals) {
        int[] offers = numbers(meals, 32);
        int[] needs = numbers(people, 31);
        int[] units = numbers(meals, 3);
        MealLoader loader = new MealLoader();
        prepare(loader, offers, needs, units);
        int[] got = new int[people];
        int[] best = new int[people];
        int most = search(0, got, best, -1, offers, needs, units.clone());
        for (int p = 0; p < people; p++) {
            if (loader.mealFor(p) != best[p]) {
                Script.tell("small flight " + run + ": passenger " + p + " got " + loader.mealFor(p) + ", due is "
                    + Arrays.toString(best));
                return;
            }
        }
        if (loader.outlook(0) != most) {
            Script.tell("small flight " + run + ": " + loader.outlook(0) + " get a meal, due is " + most);
        }
    }

    /** Goes through all ways in their order; keeps the first of those that match the most. */
    private static int search(int p, int[] got, int[] best, int most, int[] offers, int[] needs, int[] left) {
        if (p == got.length) {
            int matched = (int) Arrays.stream(got).filter(m -> m >= 0).count();
            if (matched > most) {
                System.arraycopy(got, 0, best, 0, got.length);
            }
            return Math.max(most, matched);
        }
        int now = most;
        for (int m = 0; m < offers.length; m++) {
            if (left[m] > 0 && (needs[p] & ~offers[m]) == 0) {
                left[m]--;
                got[p] = m;
                now = search(p + 1, got, best, now, offers, needs, left);
                left[m]++;
            }
        }
        got[p] = -1;
        return search(p + 1, got, best, now, offers, needs, left);
    }

    private static void ownDiets(int run, int people, int meals) {
        int[] offers = new int[meals];
        int[] needs = new int[people];
        int[] units = numbers(meals, 3);
        for (int p = 0; p < people; p++) {
            needs[p] = 1 << p;
            for (int m = 0; m < meals; m++) {
                offers[m] |= below(2) << p;
            }
        }
        MealLoader loader = new MealLoader();
        prepare(loader, offers, needs, units);
        int[] first = firstWay(offers, needs, units);
        for (int p = 0; p < people; p++) {
            if (loader.mealFor(p) != first[p]) {
                Script.tell("own diets " + run + ": passenger " + p + " got " + loader.mealFor(p) + ", due is "
                    + Arrays.toString(first));
                return;
            }
        }
    }

    /** Each passenger gets the first meal with which those behind can still be as many as are due. */
    private static int[] firstWay(int[] offers, int[] needs, int[] units) {
        int[] got = new int[needs.length];
        int[] left = units.clone();
        int due = most(0, offers, needs, left);
        for (int p = 0; p < got.length; p++) {
            got[p] = -1;
            for (int m = 0; m < offers.length && got[p] < 0; m++) {
                if (left[m] > 0 && (needs[p] & ~offers[m]) == 0) {
                    left[m]--;
                    got[p] = 1 + most(p + 1, offers, needs, left) == due ? m : -1;
                    left[m] += got[p] < 0 ? 1 : 0;
                }
            }
            due -= got[p] < 0 ? 0 : 1;
        }
        return got;
    }

    private static int most(int first, int[] offers, int[] needs, int[] left) {
        int[][] eaters = new int[left.length][];
        for (int m = 0; m < left.length; m++) {
            eaters[m] = new int[left[m]];
            Arrays.fill(eaters[m], -1);
        }
        int matched = 0;
        for (int p = first; p < needs.length; p++) {
            matched += finds(p, offers, needs, eaters, new boolean[left.length]) ? 1 : 0;
        }
        return matched;
    }

    private static boolean finds(int p, int[] offers, int[] needs, int[][] eaters, boolean[] seen) {
        for (int m = 0; m < offers.length; m++) {
            if (!seen[m] && (needs[p] & ~offers[m]) == 0) {
                seen[m] = true;
                for (int unit = 0; unit < eaters[m].length; unit++) {
                    int eater = eaters[m][unit];
                    if (eater < 0 || finds(eater, offers, needs, eaters, seen)) {
                        eaters[m][unit] = p;
                        return true;
                    }
                }
            }
        }
        return false;
    }

    private static void full(int run, int people, int meals) {
        int[] offers = numbers(meals, 256);
        int[] needs = numbers(people, 40);
        int[] units = numbers(meals, 1 + 2 * people / meals);
        MealLoader loader = new MealLoader();
        Model model = new Model();
        prepare(loader, offers, needs, units);
        prepare(model, offers, needs, units);
        for (int p = 0; p < people; p++) {
            if (loader.mealFor(p) != model.mealFor(p)) {
                Script.tell("full flight " + run + ": passenger " + p + " got " + loader.mealFor(p) + ", the model "
                    + model.mealFor(p));
                return;
            }
        }
    }

    private static int[] numbers(int size, int bound) {
        int[] numbers = new int[size];
        for (int i = 0; i < size; i++) {
            numbers[i] = below(bound) & (bound > 8 ? below(bound) | below(bound) : -1);
        }
        return numbers;
    }

    private static void prepare(Object target, int[] offers, int[] needs, int[] units) {
        StringBuilder text = new StringBuilder("cabin a 40;trolley a 40;trolley a 40;trolley a 40;");
        for (int m = 0; m < offers.length; m++) {
            text.append("meal ").append((char) ('a' + m)).append(" special 1 1");
            if (offers[m] != 0) {
                text.append(" offers ");
                for (int diet = 0; diet < 8; diet++) {
                    text.append((offers[m] >> diet & 1) == 1 ? "" + (char) ('a' + diet) : "");
                }
            }
            text.append(';');
        }
        Script.feedTo(target, text.toString());
        Script.answer(target, "load " + text.length());
        for (int need : needs) {
            // Needs are at least 1: a plain passenger takes no part.
            Script.answer(target, "board 0 " + Math.max(1, need) + " -1");
        }
        for (int m = 0; m < units.length; m++) {
            Script.answer(target, "store " + m + " " + units[m]);
        }
        for (int p = 0; p < needs.length; p++) {
            needs[p] = Math.max(1, needs[p]);
        }
    }
}
