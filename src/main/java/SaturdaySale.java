/**
 * A sale of coats that ends on a day: what prices bring, what is best to ask, what promised prices
 * cost, and what a simple rule for the boy at the counter costs.
 *
 * Every chance is a number of quarters and every sort comes once a day, so a mean that is taken over
 * some days is a whole number over 4 to the power of (sorts times days): at most 1188 times 2 to the
 * power of 36. All means are therefore held exactly, as that whole number in a long.
 */
public final class SaturdaySale {
    public static final int UNKNOWN = -1, OUTSIDE = -2, STATE = -3, FULL = -4, NO = -5, NONE = -6;
    public static final long LOST = -1000000000000000000L;

    private static final int MOST_COATS = 12;
    private static final int MOST_DAYS = 6;
    private static final int MOST_REST = 99;
    private static final int MOST_PRICES = 5;
    private static final int MOST_PRICE = 99;
    private static final int MOST_SORTS = 3;
    private static final int SURE = 4;
    private static final int MOST_WORTH = 99;
    private static final int MOST_FALL = 30;
    private static final int MOST_WAIT = 30;
    private static final int NO_WAIT = -1;
    private static final int MOST_COST = 99;
    private static final int MOST_SIGNS = 40;
    private static final int FIRST_SIGN = 33;
    private static final int LAST_SIGN = 126;
    /** A clause has six signs or more, and a digit must follow the last one. */
    private static final int MOST_CLAUSES = 6;
    /** Plans of 6 days and 5 prices that never rise: 10 over 4. */
    private static final int MOST_FALLING_PLANS = 210;
    private static final int NOT_YET = -1;

    private final Sale sale = new Sale();
    private final int[] planned = new int[MOST_DAYS];
    private final Table bestTable = new Table();
    private final Table otherTable = new Table();
    private final Walk walk = new Walk();
    private final FallingPlans falling = new FallingPlans();
    private final Greatest keptPlan = new Greatest();
    private final Greatest oncePlan = new Greatest();
    private final Greatest metPlan = new Greatest();
    private final Text text = new Text();
    private final Rule boyRule = new Rule();
    private int bestEdition = NOT_YET;
    private int keptEdition = NOT_YET;
    private int metEdition = NOT_YET;

    public SaturdaySale() {
    }

    // ---- 1 the sale

    public int set(int which, int v) {
        int was;
        if (which == 0 && isWithin(v, 0, MOST_COATS)) {
            was = sale.coats;
            sale.coats = v;
        } else if (which == 1 && isWithin(v, 1, MOST_DAYS)) {
            was = sale.days;
            sale.days = v;
        } else if (which == 2 && isWithin(v, 0, MOST_REST)) {
            was = sale.rest;
            sale.rest = v;
        } else {
            return OUTSIDE;
        }
        sale.edition++;
        return was;
    }

    public int price(int v) {
        int count = sale.priceCount;
        if (!isWithin(v, 1, MOST_PRICE) || (count > 0 && v >= sale.prices[count - 1])) {
            return OUTSIDE;
        }
        if (count >= MOST_PRICES) {
            return FULL;
        }
        sale.prices[count] = v;
        sale.priceCount++;
        sale.edition++;
        return count;
    }

    public int sort(int chance, int worth, int fall) {
        if (!isWithin(chance, 0, SURE) || !isWithin(worth, 0, MOST_WORTH) || !isWithin(fall, 0, MOST_FALL)) {
            return OUTSIDE;
        }
        int count = sale.sortCount;
        if (count >= MOST_SORTS) {
            return FULL;
        }
        sale.chances[count] = chance;
        sale.worths[count] = worth;
        sale.falls[count] = fall;
        sale.waits[count] = NO_WAIT;
        sale.sortCount++;
        sale.edition++;
        return count;
    }

    public int change(int sort, int what, int v) {
        if (!sale.isSort(sort)) {
            return UNKNOWN;
        }
        int was;
        if (what == 0 && isWithin(v, 0, SURE)) {
            was = sale.chances[sort];
            sale.chances[sort] = v;
        } else if (what == 1 && isWithin(v, 0, MOST_WORTH)) {
            was = sale.worths[sort];
            sale.worths[sort] = v;
        } else if (what == 2 && isWithin(v, 0, MOST_FALL)) {
            was = sale.falls[sort];
            sale.falls[sort] = v;
        } else if (what == 3 && isWithin(v, NO_WAIT, MOST_WAIT)) {
            was = sale.waitTold(sort);
            sale.waits[sort] = v;
        } else {
            return OUTSIDE;
        }
        sale.edition++;
        return was;
    }

    public int worth(int sort, int day) {
        if (!sale.isSort(sort)) {
            return UNKNOWN;
        }
        return isWithin(day, 0, MOST_DAYS - 1) ? sale.worthOn(sort, day) : OUTSIDE;
    }

    // ---- 2 plans, what is best

    public int plan(int day, int price) {
        if (!sale.isPrice(price)) {
            return UNKNOWN;
        }
        if (!isWithin(day, 0, MOST_DAYS - 1)) {
            return OUTSIDE;
        }
        int was = planned[day];
        planned[day] = price;
        return was;
    }

    public long brings(int part) {
        int refusal = refusalOf(isPart(part));
        if (refusal != 0) {
            return LOST + refusal;
        }
        walk.goByPlan(sale, planned, 0);
        return partOf(walk.mean(sale), sale.scale(sale.days), part);
    }

    public long left(int n, int part) {
        int refusal = refusalOf(isWithin(n, 0, sale.coats) && isPart(part));
        if (refusal != 0) {
            return LOST + refusal;
        }
        walk.goByPlan(sale, planned, 0);
        return partOf(walk.odds[sale.days][n], sale.scale(sale.days), part);
    }

    public int best(int day, int n) {
        int refusal = refusalOf(isDay(day) && isWithin(n, 1, sale.coats));
        if (refusal != 0) {
            return refusal;
        }
        findBest();
        return bestTable.asked[day][n];
    }

    public long state(int day, int n, int part) {
        int refusal = refusalOf(isWithin(day, 0, sale.days) && isWithin(n, 0, sale.coats) && isPart(part));
        if (refusal != 0) {
            return LOST + refusal;
        }
        findBest();
        return partOf(bestTable.means[day][n], sale.scale(sale.days - day), part);
    }

    public int dip(int i) {
        int refusal = refusalOf(true);
        if (refusal != 0) {
            return refusal;
        }
        findBest();
        int count = 0;
        for (int day = 0; day < sale.days; day++) {
            for (int n = 1; n < sale.coats; n++) {
                // a greater number is a lower price
                if (bestTable.asked[day][n] > bestTable.asked[day][n + 1]) {
                    if (count == i) {
                        return 100 * day + n;
                    }
                    count++;
                }
            }
        }
        return i == -1 ? count : NONE;
    }

    // ---- 3 promises

    public int kept(int what, int day) {
        int refusal = refusalOf(isWithin(what, 0, 2) && isDay(day));
        if (refusal != 0) {
            return refusal;
        }
        return promised(what).numbers[day];
    }

    public long keeps(int what, int part) {
        int refusal = refusalOf(isWithin(what, 0, 4) && isPart(part));
        if (refusal != 0) {
            return LOST + refusal;
        }
        return partOf(promiseMean(what), sale.scale(sale.days), part);
    }

    public int rather() {
        int refusal = refusalOf(true);
        if (refusal != 0) {
            return refusal;
        }
        findBest();
        findKept();
        otherTable.askByPlan(keptPlan.numbers);
        otherTable.fillAsked(sale);
        walk.goByPlan(sale, keptPlan.numbers, 0);
        for (int day = 0; day < sale.days; day++) {
            for (int n = 0; n <= sale.coats; n++) {
                if (walk.odds[day][n] > 0 && bestTable.means[day][n] > otherTable.means[day][n]) {
                    return 100 * day + n;
                }
            }
        }
        return NONE;
    }

    public int picks(int sort, int day) {
        if (!sale.isSort(sort)) {
            return UNKNOWN;
        }
        int refusal = refusalOf(isDay(day));
        if (refusal != 0) {
            return refusal;
        }
        return sale.isWaiting(sort) ? sale.dayPicked(sort, day, planned) : NO;
    }

    // ---- 4 made, rules

    public int made(int cost) {
        int refusal = refusalOf(isWithin(cost, 0, MOST_COST));
        if (refusal != 0) {
            return refusal;
        }
        findBest();
        long costOfOne = cost * sale.scale(sale.days);
        int most = 0;
        for (int n = 1; n <= MOST_COATS; n++) {
            if (bestTable.means[0][n] - costOfOne * n > bestTable.means[0][most] - costOfOne * most) {
                most = n;
            }
        }
        return most;
    }

    public int say(int sign) {
        if (!isWithin(sign, FIRST_SIGN, LAST_SIGN)) {
            return OUTSIDE;
        }
        if (text.count >= MOST_SIGNS) {
            return FULL;
        }
        text.signs[text.count] = sign;
        text.count++;
        return text.count;
    }

    public int wipe() {
        int was = text.count;
        text.count = 0;
        return was;
    }

    public int fault() {
        return text.faultPlace();
    }

    public int rule() {
        if (text.faultPlace() != NONE) {
            return NO;
        }
        boyRule.read(text);
        text.count = 0;
        return boyRule.clauses;
    }

    public int asks(int day, int n) {
        int refusal = ruleRefusalOf(isWithin(day, 0, MOST_DAYS - 1) && isWithin(n, 0, MOST_COATS));
        return refusal != 0 ? refusal : boyRule.numberFor(day, n, sale.priceCount);
    }

    public long boy(int part) {
        int refusal = ruleRefusalOf(isPart(part));
        if (refusal != 0) {
            return LOST + refusal;
        }
        findBoy();
        return partOf(otherTable.means[0][sale.coats], sale.scale(sale.days), part);
    }

    public int worst() {
        int refusal = ruleRefusalOf(true);
        if (refusal != 0) {
            return refusal;
        }
        findBest();
        findBoy();
        int coats = 1;
        long dearest = bestTable.means[0][1] - otherTable.means[0][1];
        for (int n = 2; n <= MOST_COATS; n++) {
            long costs = bestTable.means[0][n] - otherTable.means[0][n];
            if (costs > dearest) {
                dearest = costs;
                coats = n;
            }
        }
        return coats;
    }

    public int edge(int sort) {
        if (!sale.isSort(sort)) {
            return UNKNOWN;
        }
        if (sale.priceCount == 0 || sale.coats == 0) {
            return STATE;
        }
        int chance = sale.chances[sort];
        for (int by = 1; by <= SURE; by++) {
            if (chance - by >= 0 && isOtherWith(sort, chance - by)) {
                return chance - by;
            }
            if (chance + by <= SURE && isOtherWith(sort, chance + by)) {
                return chance + by;
            }
        }
        return NONE;
    }

    public int told(int what) {
        if (isWithin(what, 10, 10 + MOST_DAYS - 1)) {
            return planned[what - 10];
        }
        if (isWithin(what, 20, 20 + MOST_PRICES - 1)) {
            return sale.isPrice(what - 20) ? sale.prices[what - 20] : NONE;
        }
        if (isWithin(what, 30, 30 + MOST_SORTS - 1)) {
            return sale.isSort(what - 30) ? sale.waitTold(what - 30) : NONE;
        }
        switch (what) {
            case 0: return sale.coats;
            case 1: return sale.days;
            case 2: return sale.rest;
            case 3: return sale.priceCount;
            case 4: return sale.sortCount;
            case 5: return text.count;
            default: return OUTSIDE;
        }
    }

    // ---- what the calls share

    private static boolean isWithin(int v, int least, int most) {
        return v >= least && v <= most;
    }

    private static boolean isPart(int part) {
        return part == 0 || part == 1;
    }

    private boolean isDay(int day) {
        return isWithin(day, 0, sale.days - 1);
    }

    /** The refusal of a call that needs prices, 0 if there is none. */
    private int refusalOf(boolean numbersAreAsTold) {
        if (!numbersAreAsTold) {
            return OUTSIDE;
        }
        return sale.priceCount == 0 ? STATE : 0;
    }

    /** The refusal of a call that needs prices and a rule, 0 if there is none. */
    private int ruleRefusalOf(boolean numbersAreAsTold) {
        int refusal = refusalOf(numbersAreAsTold);
        return refusal == 0 && !boyRule.stands ? STATE : refusal;
    }

    /** All lower numbers are powers of 2, so halving both is all that lowest terms take. */
    private static long partOf(long upper, long lower, int part) {
        long up = upper;
        long low = lower;
        for (int i = 0; i < 64 && (up & 1) == 0 && (low & 1) == 0; i++) {
            up >>= 1;
            low >>= 1;
        }
        return part == 0 ? up : low;
    }

    private void findBest() {
        if (bestEdition != sale.edition) {
            bestTable.fillBest(sale);
            bestEdition = sale.edition;
        }
    }

    private void findKept() {
        if (keptEdition == sale.edition) {
            return;
        }
        keptPlan.clear();
        oncePlan.clear();
        int changed = falling.begin();
        for (int i = 0; i < MOST_FALLING_PLANS && changed != NONE; i++) {
            walk.goByPlan(sale, falling.numbers, changed);
            long mean = walk.mean(sale);
            keptPlan.offer(mean, falling.numbers);
            if (falling.marksDown(sale.days) <= 1) {
                oncePlan.offer(mean, falling.numbers);
            }
            changed = falling.advance(sale.days, sale.priceCount);
        }
        keptEdition = sale.edition;
    }

    private void findMet() {
        if (metEdition == sale.edition) {
            return;
        }
        metPlan.clear();
        int changed = falling.begin();
        for (int i = 0; i < MOST_FALLING_PLANS && changed != NONE; i++) {
            walk.goWaiting(sale, falling.numbers);
            metPlan.offer(walk.mean(sale), falling.numbers);
            changed = falling.advance(sale.days, sale.priceCount);
        }
        metEdition = sale.edition;
    }

    /** Not kept between calls, as the other table serves rather and edge, too. */
    private void findBoy() {
        otherTable.askByRule(boyRule, sale.priceCount);
        otherTable.fillAsked(sale);
    }

    /** KEPT (0), ONCE (1), MET BEST (2). */
    private Greatest promised(int what) {
        if (what == 2) {
            findMet();
            return metPlan;
        }
        findKept();
        return what == 1 ? oncePlan : keptPlan;
    }

    /** The upper number of what the call keeps tells; the lower one is that of all days. */
    private long promiseMean(int what) {
        if (what == 4) {
            walk.goWaiting(sale, planned);
            return walk.mean(sale);
        }
        if (what == 2) {
            findMet();
            return metPlan.mean;
        }
        findKept();
        if (what == 3) {
            findBest();
            return bestTable.means[0][sale.coats] - keptPlan.mean;
        }
        return what == 1 ? oncePlan.mean : keptPlan.mean;
    }

    /** Whether the best price of the beginning is another one if the chance of a sort is as given. */
    private boolean isOtherWith(int sort, int chance) {
        findBest();
        int was = sale.chances[sort];
        sale.chances[sort] = chance;
        otherTable.fillBest(sale);
        sale.chances[sort] = was;
        return otherTable.asked[0][sale.coats] != bestTable.asked[0][sale.coats];
    }

    /** What is sold, when, and to whom. */
    private static final class Sale {
        private int coats = 4;
        private int days = 3;
        private int rest = 0;
        private final int[] prices = new int[MOST_PRICES];
        private int priceCount = 0;
        private final int[] chances = new int[MOST_SORTS];
        private final int[] worths = new int[MOST_SORTS];
        private final int[] falls = new int[MOST_SORTS];
        private final int[] waits = new int[MOST_SORTS];
        private int sortCount = 0;
        /** Another one after each change, so that what was found for an earlier one is found anew. */
        private int edition = 0;

        boolean isPrice(int number) {
            return number >= 0 && number < priceCount;
        }

        boolean isSort(int number) {
            return number >= 0 && number < sortCount;
        }

        boolean isWaiting(int number) {
            return waits[number] != NO_WAIT;
        }

        int waitTold(int number) {
            return isWaiting(number) ? waits[number] : NONE;
        }

        int worthOn(int number, int day) {
            int worth = worths[number] - falls[number] * day;
            return worth > 0 ? worth : 0;
        }

        /** The chance that a buyer of a sort who does not wait would take a coat on a day. */
        int chanceToBuy(int number, int day, int priceNumber) {
            return worthOn(number, day) >= prices[priceNumber] ? chances[number] : 0;
        }

        /** The day that a buyer of a sort who waits picks, NONE if the buyer goes. */
        int dayPicked(int number, int first, int[] numbers) {
            int picked = NONE;
            int gain = -1;
            for (int day = first; day < days; day++) {
                int gained = worthOn(number, day) - prices[numbers[day]] - waits[number] * (day - first);
                if (gained > gain) {
                    gain = gained;
                    picked = day;
                }
            }
            return picked;
        }

        /** The lower number of a mean over some days. */
        long scale(int someDays) {
            return 1L << (2 * sortCount * someDays);
        }
    }

    /** Means of all that comes from a day and a number of coats on, from the last day back. */
    private static final class Table {
        /** Upper numbers; the lower one is the scale of the days that are still to come. */
        private final long[][] means = new long[MOST_DAYS + 1][MOST_COATS + 1];
        private final int[][] asked = new int[MOST_DAYS][MOST_COATS + 1];
        private final long[] row = new long[MOST_COATS + 1];

        void askByPlan(int[] numbers) {
            for (int day = 0; day < MOST_DAYS; day++) {
                for (int n = 0; n <= MOST_COATS; n++) {
                    asked[day][n] = numbers[day];
                }
            }
        }

        void askByRule(Rule rule, int priceCount) {
            for (int day = 0; day < MOST_DAYS; day++) {
                for (int n = 0; n <= MOST_COATS; n++) {
                    asked[day][n] = rule.numberFor(day, n, priceCount);
                }
            }
        }

        /** Means by the prices that are asked. */
        void fillAsked(Sale sale) {
            fillEnd(sale);
            for (int day = sale.days - 1; day >= 0; day--) {
                for (int number = 0; number < sale.priceCount; number++) {
                    rowFor(sale, day, number);
                    takeAsked(day, number);
                }
            }
        }

        /** Means by the best prices, which are then those that are asked. */
        void fillBest(Sale sale) {
            fillEnd(sale);
            for (int day = sale.days - 1; day >= 0; day--) {
                for (int number = 0; number < sale.priceCount; number++) {
                    rowFor(sale, day, number);
                    takeGreater(day, number);
                }
            }
        }

        private void fillEnd(Sale sale) {
            for (int n = 0; n <= MOST_COATS; n++) {
                means[sale.days][n] = (long) sale.rest * n;
            }
        }

        /** The row of means of a day on which one price is asked, however many coats are left. */
        private void rowFor(Sale sale, int day, int number) {
            System.arraycopy(means[day + 1], 0, row, 0, MOST_COATS + 1);
            long one = sale.scale(sale.days - 1 - day);
            for (int sort = sale.sortCount - 1; sort >= 0; sort--) {
                backByBuyer(sale.chanceToBuy(sort, day, number), sale.prices[number] * one);
                one *= SURE;
            }
        }

        /** With no coat left nothing comes: the mean for 0 coats stays 0. */
        private void backByBuyer(int chance, long paid) {
            for (int n = MOST_COATS; n > 0; n--) {
                row[n] = chance * (paid + row[n - 1]) + (SURE - chance) * row[n];
            }
        }

        private void takeAsked(int day, int number) {
            for (int n = 0; n <= MOST_COATS; n++) {
                if (asked[day][n] == number) {
                    means[day][n] = row[n];
                }
            }
        }

        private void takeGreater(int day, int number) {
            for (int n = 0; n <= MOST_COATS; n++) {
                if (number == 0 || row[n] > means[day][n]) {
                    means[day][n] = row[n];
                    asked[day][n] = number;
                }
            }
        }
    }

    /** A walk through the days by a plan: how likely how many are left, and what has been taken. */
    private static final class Walk {
        /** Upper numbers of the odds at the beginning of each day, and behind the last one. */
        private final long[][] odds = new long[MOST_DAYS + 1][MOST_COATS + 1];
        private final long[] takings = new long[MOST_DAYS + 1];
        /** The day picked by a buyer, by the day of coming and the sort. */
        private final int[][] picked = new int[MOST_DAYS][MOST_SORTS];

        /** Nobody waits. The rows of days up to the first changed one are those of the last walk. */
        void goByPlan(Sale sale, int[] numbers, int firstChanged) {
            if (firstChanged == 0) {
                begin(sale);
            }
            for (int day = firstChanged; day < sale.days; day++) {
                openDay(day);
                for (int sort = 0; sort < sale.sortCount; sort++) {
                    passBuyer(day, sale.chanceToBuy(sort, day, numbers[day]), sale.prices[numbers[day]]);
                }
            }
        }

        /** Those who wait, wait. */
        void goWaiting(Sale sale, int[] numbers) {
            begin(sale);
            pickAll(sale, numbers);
            for (int day = 0; day < sale.days; day++) {
                openDay(day);
                for (int first = 0; first <= day; first++) {
                    passThoseOf(first, sale, day, numbers[day]);
                }
            }
        }

        /** The upper number of the mean of the takings and of what the coats left bring. */
        long mean(Sale sale) {
            long sum = takings[sale.days];
            for (int n = 1; n <= sale.coats; n++) {
                sum += odds[sale.days][n] * n * sale.rest;
            }
            return sum;
        }

        private void begin(Sale sale) {
            for (int n = 0; n <= MOST_COATS; n++) {
                odds[0][n] = n == sale.coats ? 1 : 0;
            }
            takings[0] = 0;
        }

        private void openDay(int day) {
            System.arraycopy(odds[day], 0, odds[day + 1], 0, MOST_COATS + 1);
            takings[day + 1] = takings[day];
        }

        private void pickAll(Sale sale, int[] numbers) {
            for (int first = 0; first < sale.days; first++) {
                for (int sort = 0; sort < sale.sortCount; sort++) {
                    picked[first][sort] = sale.isWaiting(sort) ? sale.dayPicked(sort, first, numbers) : first;
                }
            }
        }

        /** Those who first came on one day and are here on another one, or go on the first. */
        private void passThoseOf(int first, Sale sale, int day, int number) {
            for (int sort = 0; sort < sale.sortCount; sort++) {
                if (picked[first][sort] == day) {
                    passBuyer(day, sale.chanceToBuy(sort, day, number), sale.prices[number]);
                } else if (picked[first][sort] == NONE && first == day) {
                    // counts as a buyer without a chance, so that all walks have one scale
                    passBuyer(day, 0, sale.prices[number]);
                }
            }
        }

        private void passBuyer(int day, int chance, int paid) {
            long[] row = odds[day + 1];
            long sold = 0;
            row[0] *= SURE;
            for (int n = 1; n <= MOST_COATS; n++) {
                long bought = row[n] * chance;
                sold += bought;
                row[n - 1] += bought;
                row[n] = row[n] * SURE - bought;
            }
            takings[day + 1] = takings[day + 1] * SURE + sold * paid;
        }
    }

    /** The plans that never rise, one after the other, the first by days first. */
    private static final class FallingPlans {
        private final int[] numbers = new int[MOST_DAYS];

        /** The first day that is another one than ahead of the call: all are. */
        int begin() {
            for (int day = 0; day < MOST_DAYS; day++) {
                numbers[day] = 0;
            }
            return 0;
        }

        /** The first day on which the next plan is another one, NONE if there is no next plan. */
        int advance(int days, int priceCount) {
            for (int day = days - 1; day >= 0; day--) {
                if (numbers[day] < priceCount - 1) {
                    int lower = numbers[day] + 1;
                    for (int later = day; later < days; later++) {
                        numbers[later] = lower;
                    }
                    return day;
                }
            }
            return NONE;
        }

        int marksDown(int days) {
            int marks = 0;
            for (int day = 1; day < days; day++) {
                if (numbers[day] != numbers[day - 1]) {
                    marks++;
                }
            }
            return marks;
        }
    }

    /** The first plan with the greatest mean of those that have been offered. */
    private static final class Greatest {
        private final int[] numbers = new int[MOST_DAYS];
        private long mean = -1;

        /** No mean is below 0, so the next plan that is offered is taken. */
        void clear() {
            mean = -1;
        }

        void offer(long offeredMean, int[] offered) {
            if (offeredMean > mean) {
                mean = offeredMean;
                System.arraycopy(offered, 0, numbers, 0, MOST_DAYS);
            }
        }
    }

    /** The signs that have been said, and what may stand where among them. */
    private static final class Text {
        private static final int AT_FACT = 0;
        private static final int AT_COMPARE = 1;
        private static final int AT_DIGIT = 2;
        private static final int AT_SECOND_DIGIT = 3;
        private static final int AT_COLON = 4;
        private static final int AT_NUMBER = 5;
        private static final int AT_SEMICOLON = 6;
        private static final int AT_END = 7;
        private static final int WRONG = 8;

        private final int[] signs = new int[MOST_SIGNS];
        private int count = 0;

        int faultPlace() {
            int at = AT_FACT;
            for (int place = 0; place < count; place++) {
                at = follow(at, signs[place]);
                if (at == WRONG) {
                    return place;
                }
            }
            return at == AT_END ? NONE : count;
        }

        static boolean isDigit(int sign) {
            return sign >= '0' && sign <= '9';
        }

        static boolean isPriceDigit(int sign) {
            return sign >= '0' && sign < '0' + MOST_PRICES;
        }

        static boolean isFact(int sign) {
            return sign == 'l' || sign == 'd';
        }

        private static boolean isCompare(int sign) {
            return sign == '<' || sign == '>' || sign == '=';
        }

        /** What is expected behind a sign, WRONG if the sign can not stand there. */
        static int follow(int at, int sign) {
            switch (at) {
                case AT_FACT:
                    return isFact(sign) ? AT_COMPARE : isPriceDigit(sign) ? AT_END : WRONG;
                case AT_COMPARE:
                    return isCompare(sign) ? AT_DIGIT : WRONG;
                case AT_DIGIT:
                    return isDigit(sign) ? AT_SECOND_DIGIT : WRONG;
                case AT_SECOND_DIGIT:
                    return isDigit(sign) ? AT_COLON : sign == ':' ? AT_NUMBER : WRONG;
                case AT_COLON:
                    return sign == ':' ? AT_NUMBER : WRONG;
                case AT_NUMBER:
                    return isPriceDigit(sign) ? AT_SEMICOLON : WRONG;
                case AT_SEMICOLON:
                    return sign == ';' ? AT_FACT : WRONG;
                default:
                    return WRONG;
            }
        }
    }

    /** The boy's rule. */
    private static final class Rule {
        private boolean stands = false;
        private int clauses = 0;
        private final int[] facts = new int[MOST_CLAUSES];
        private final int[] compares = new int[MOST_CLAUSES];
        private final int[] bounds = new int[MOST_CLAUSES];
        private final int[] numbers = new int[MOST_CLAUSES];
        private int lastNumber = 0;

        /** Takes over a text without a fault. */
        void read(Text text) {
            stands = true;
            clauses = 0;
            int at = Text.AT_FACT;
            for (int place = 0; place < text.count; place++) {
                int sign = text.signs[place];
                if (at == Text.AT_FACT && !Text.isFact(sign)) {
                    lastNumber = sign - '0';
                } else if (at == Text.AT_SEMICOLON) {
                    clauses++;
                } else if (clauses < MOST_CLAUSES) {
                    readInClause(at, sign);
                }
                at = Text.follow(at, sign);
            }
        }

        private void readInClause(int at, int sign) {
            switch (at) {
                case Text.AT_FACT:
                    facts[clauses] = sign;
                    break;
                case Text.AT_COMPARE:
                    compares[clauses] = sign;
                    break;
                case Text.AT_DIGIT:
                    bounds[clauses] = sign - '0';
                    break;
                case Text.AT_SECOND_DIGIT:
                    if (Text.isDigit(sign)) {
                        bounds[clauses] = bounds[clauses] * 10 + sign - '0';
                    }
                    break;
                case Text.AT_NUMBER:
                    numbers[clauses] = sign - '0';
                    break;
                default:
                    break;
            }
        }

        /** The number of the price asked; one that there is not means the last price. */
        int numberFor(int day, int coats, int priceCount) {
            int number = lastNumber;
            for (int clause = clauses - 1; clause >= 0; clause--) {
                if (isSo(clause, facts[clause] == 'l' ? coats : day)) {
                    number = numbers[clause];
                }
            }
            return Math.min(number, priceCount - 1);
        }

        private boolean isSo(int clause, int fact) {
            switch (compares[clause]) {
                case '<': return fact < bounds[clause];
                case '>': return fact > bounds[clause];
                default: return fact == bounds[clause];
            }
        }
    }
}
