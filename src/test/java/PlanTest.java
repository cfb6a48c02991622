/** Promises 7 to 12: plan, brings, left, best, state, dip. */
public final class PlanTest {
    private static final Due DUE = new Due();
    private static final long LOST_OUTSIDE = SaturdaySale.LOST - 2;
    private static final long LOST_STATE = SaturdaySale.LOST - 3;

    public static void main(String[] args) {
        plan();
        brings();
        bringsOfOneDay();
        refusalsOfFractions();
        left();
        largest();
        best();
        bestTakesTheHighestOfLikePrices();
        state();
        noDip();
        dip();
        dipsInOrder();
        changesAreSeen();
        DUE.end();
    }

    private static void plan() {
        SaturdaySale x = new SaturdaySale();
        DUE.is("no price yet", x.plan(0, 0), -1);
        DUE.is("no price yet, wrong day", x.plan(9, 0), -1);
        x.price(50);
        x.price(40);
        DUE.is("plan 0", x.plan(0, 1), 0);
        DUE.is("plan 0 again", x.plan(0, 0), 1);
        DUE.is("plan 5, behind the last day", x.plan(5, 1), 0);
        DUE.is("told 15", x.told(15), 1);
        DUE.is("plan 6", x.plan(6, 1), -2);
        DUE.is("plan -1", x.plan(-1, 1), -2);
        DUE.is("price 2", x.plan(0, 2), -1);
        DUE.is("price -1", x.plan(0, -1), -1);
        DUE.is("price 2 on day 6", x.plan(6, 2), -1);
    }

    /** Two days, one coat: half a buyer at 30, then a quarter of one at 20, else 10. */
    private static void brings() {
        SaturdaySale x = new SaturdaySale();
        x.set(0, 1);
        x.set(1, 2);
        x.set(2, 10);
        x.price(30);
        x.price(20);
        x.sort(2, 30, 10);
        x.plan(1, 1);
        DUE.fraction("brings", x.brings(0), x.brings(1), 45, 2);
        x.change(0, 2, 11);
        DUE.fraction("not worth it on day 1", x.brings(0), x.brings(1), 20, 1);
        x.set(0, 0);
        DUE.fraction("no coats", x.brings(0), x.brings(1), 0, 1);
        x.set(0, 12);
        DUE.fraction("12 coats", x.brings(0), x.brings(1), 130, 1);
    }

    /** Two buyers for one coat, and for two. */
    private static void bringsOfOneDay() {
        SaturdaySale x = new SaturdaySale();
        x.set(0, 1);
        x.set(1, 1);
        x.price(8);
        x.sort(1, 8, 0);
        x.sort(3, 99, 30);
        x.sort(4, 7, 0);
        DUE.fraction("one coat", x.brings(0), x.brings(1), 13, 2);
        x.set(0, 2);
        DUE.fraction("two coats", x.brings(0), x.brings(1), 8, 1);
        DUE.fraction("none left", x.left(0, 0), x.left(0, 1), 3, 16);
        DUE.fraction("one left", x.left(1, 0), x.left(1, 1), 5, 8);
        DUE.fraction("two left", x.left(2, 0), x.left(2, 1), 3, 16);
        DUE.is("three left", x.left(3, 0), LOST_OUTSIDE);
    }

    private static void refusalsOfFractions() {
        SaturdaySale x = new SaturdaySale();
        DUE.is("brings part 2, no prices", x.brings(2), LOST_OUTSIDE);
        DUE.is("brings part 1, no prices", x.brings(1), LOST_STATE);
        DUE.is("left 5, no prices", x.left(5, 0), LOST_OUTSIDE);
        DUE.is("left 4, no prices", x.left(4, 0), LOST_STATE);
        DUE.is("state of day 4, no prices", x.state(4, 0, 0), LOST_OUTSIDE);
        DUE.is("state of day 3, no prices", x.state(3, 4, 0), LOST_STATE);
        DUE.is("best of day 3, no prices", x.best(3, 1), -2);
        DUE.is("best of day 2, no prices", x.best(2, 4), -3);
        x.price(1);
        DUE.is("brings part -1", x.brings(-1), LOST_OUTSIDE);
        DUE.is("brings part 2", x.brings(2), LOST_OUTSIDE);
        DUE.is("left n -1", x.left(-1, 0), LOST_OUTSIDE);
        DUE.is("left part 2", x.left(0, 2), LOST_OUTSIDE);
        DUE.is("left part -1", x.left(0, -1), LOST_OUTSIDE);
        DUE.is("state day -1", x.state(-1, 0, 0), LOST_OUTSIDE);
        DUE.is("state n -1", x.state(0, -1, 0), LOST_OUTSIDE);
        DUE.is("state n 5", x.state(0, 5, 0), LOST_OUTSIDE);
        DUE.is("state part 2", x.state(0, 0, 2), LOST_OUTSIDE);
        DUE.is("state part -1", x.state(0, 0, -1), LOST_OUTSIDE);
        DUE.is("best day -1", x.best(-1, 1), -2);
        DUE.is("best n 0", x.best(0, 0), -2);
        DUE.is("best n 5", x.best(0, 5), -2);
        x.set(0, 0);
        DUE.is("best without coats", x.best(0, 1), -2);
        DUE.is("left 0 without coats", x.left(0, 0), 1);
    }

    /** One sort with a half on each of three days: how many of 4 are left goes by 1 3 3 1. */
    private static void left() {
        SaturdaySale x = new SaturdaySale();
        x.price(10);
        x.sort(2, 10, 0);
        DUE.fraction("left 4", x.left(4, 0), x.left(4, 1), 1, 8);
        DUE.fraction("left 3", x.left(3, 0), x.left(3, 1), 3, 8);
        DUE.fraction("left 2", x.left(2, 0), x.left(2, 1), 3, 8);
        DUE.fraction("left 1", x.left(1, 0), x.left(1, 1), 1, 8);
        DUE.fraction("left 0", x.left(0, 0), x.left(0, 1), 0, 1);
        x.set(0, 2);
        DUE.fraction("left 0 of 2", x.left(0, 0), x.left(0, 1), 1, 2);
        x.change(0, 3, 0);
        DUE.fraction("nobody waits here", x.left(0, 0), x.left(0, 1), 1, 2);
    }

    /** The longest sale: 18 buyers with odd chances, so that no lower number can be made less. */
    private static void largest() {
        SaturdaySale x = new SaturdaySale();
        x.set(0, 12);
        x.set(1, 6);
        x.price(99);
        for (int i = 0; i < 3; i++) {
            x.sort(3, 99, 0);
        }
        long all = 1L << 36;
        DUE.fraction("12 left", x.left(12, 0), x.left(12, 1), 1, all);
        DUE.fraction("11 left", x.left(11, 0), x.left(11, 1), 27, all >> 1);
        long sum = 0;
        for (int n = 0; n <= 12; n++) {
            sum += x.left(n, 0) * (all / x.left(n, 1));
        }
        DUE.is("all odds", sum, all);
        x.set(2, 98);
        long mean = 12L * 98 * all;
        for (int n = 0; n <= 12; n++) {
            mean += (12 - n) * x.left(n, 0) * (all / x.left(n, 1));
        }
        DUE.is("brings", x.brings(0) * (all / x.brings(1)), mean);
        DUE.is("state", x.state(0, 12, 0), x.brings(0));
        DUE.is("state", x.state(0, 12, 1), x.brings(1));
    }

    /** A last day with a sure buyer at 5 and a half one at 10; ahead of it the coat may be kept. */
    private static void best() {
        SaturdaySale x = new SaturdaySale();
        x.set(0, 2);
        x.set(1, 2);
        x.price(12);
        x.price(5);
        x.sort(4, 5, 0);
        x.sort(2, 12, 0);
        DUE.is("one coat, last day", x.best(1, 1), 0);
        DUE.is("two coats, last day", x.best(1, 2), 1);
        DUE.is("one coat, day 0", x.best(0, 1), 0);
        DUE.is("two coats, day 0", x.best(0, 2), 0);
        DUE.fraction("state 1 1", x.state(1, 1, 0), x.state(1, 1, 1), 6, 1);
        DUE.fraction("state 1 2", x.state(1, 2, 0), x.state(1, 2, 1), 15, 2);
        DUE.fraction("state 0 1", x.state(0, 1, 0), x.state(0, 1, 1), 9, 1);
        DUE.fraction("state 0 2", x.state(0, 2, 0), x.state(0, 2, 1), 51, 4);
    }

    private static void bestTakesTheHighestOfLikePrices() {
        SaturdaySale x = new SaturdaySale();
        x.set(0, 1);
        x.set(1, 1);
        x.price(20);
        x.price(10);
        x.price(5);
        x.sort(2, 20, 0);
        x.sort(4, 10, 0);
        DUE.is("10 and 10", x.best(0, 1), 0);
        x.change(0, 0, 1);
        DUE.is("5 and 10", x.best(0, 1), 1);
        x.change(1, 0, 0);
        x.change(0, 0, 0);
        DUE.is("nobody", x.best(0, 1), 0);
        x.set(2, 99);
        x.change(0, 0, 4);
        x.price(1);
        DUE.is("20 sold, which is less than the rest", x.best(0, 1), 0);
        x.change(0, 1, 1);
        x.price(1);
        DUE.is("none need buy", x.best(0, 1), 0);
    }

    private static void state() {
        SaturdaySale x = new SaturdaySale();
        x.price(50);
        x.set(2, 7);
        DUE.fraction("behind the last day", x.state(3, 4, 0), x.state(3, 4, 1), 28, 1);
        DUE.fraction("no coats", x.state(0, 0, 0), x.state(0, 0, 1), 0, 1);
        DUE.fraction("nobody comes", x.state(0, 3, 0), x.state(0, 3, 1), 21, 1);
        x.sort(1, 50, 0);
        DUE.fraction("last day", x.state(2, 1, 0), x.state(2, 1, 1), 71, 4);
        DUE.is("day 4 of 3", x.state(4, 0, 0), LOST_OUTSIDE);
        x.set(1, 4);
        DUE.fraction("day 4 of 4", x.state(4, 1, 0), x.state(4, 1, 1), 7, 1);
        DUE.fraction("last day of 4", x.state(3, 1, 0), x.state(3, 1, 1), 71, 4);
    }

    /** A sure buyer at 20 and two sure ones at 10, one day: the more coats, the lower the price. */
    private static void noDip() {
        SaturdaySale x = new SaturdaySale();
        DUE.is("no prices", x.dip(0), -3);
        DUE.is("no prices, how many", x.dip(-1), -3);
        DUE.is("no prices, below", x.dip(-2), -3);
        x.set(1, 1);
        x.price(20);
        x.price(10);
        x.sort(4, 20, 0);
        x.sort(4, 10, 0);
        x.sort(4, 10, 0);
        DUE.is("best 1", x.best(0, 1), 0);
        DUE.is("best 2", x.best(0, 2), 0);
        DUE.is("best 3", x.best(0, 3), 1);
        DUE.is("how many", x.dip(-1), 0);
        DUE.is("first", x.dip(0), -6);
        DUE.is("far", x.dip(Integer.MAX_VALUE), -6);
        DUE.is("below", x.dip(-2), -6);
        DUE.is("far below", x.dip(Integer.MIN_VALUE), -6);
    }

    /**
     * Sure buyers to whom it is worth 93, 49, 30 on day 0 and 82, 30, 30 on day 1. Day 1 brings 65
     * with one coat or two (at 65) and 78 with more (at 26). On day 0 with 3 coats 85 brings 85 and
     * 65, but 44 brings 88 and 65; with 4 coats 85 brings 85 and 78, and 44 still 88 and 65.
     */
    private static void dip() {
        SaturdaySale x = new SaturdaySale();
        x.set(1, 2);
        x.price(85);
        x.price(65);
        x.price(44);
        x.price(26);
        x.sort(4, 93, 11);
        x.sort(4, 49, 19);
        x.sort(4, 30, 0);
        DUE.is("best with 3", x.best(0, 3), 2);
        DUE.is("best with 4", x.best(0, 4), 0);
        DUE.fraction("state with 3", x.state(0, 3, 0), x.state(0, 3, 1), 153, 1);
        DUE.fraction("state with 4", x.state(0, 4, 0), x.state(0, 4, 1), 163, 1);
        DUE.is("how many", x.dip(-1), 1);
        DUE.is("first", x.dip(0), 3);
        DUE.is("second", x.dip(1), -6);
        x.set(0, 3);
        DUE.is("how many, with 3 coats in all", x.dip(-1), 0);
        x.set(0, 4);
        x.set(1, 1);
        DUE.is("how many, with one day", x.dip(-1), 0);
    }

    /** Each dip is one by best's prices, and they come by days, then by coats. */
    private static void dipsInOrder() {
        SaturdaySale x = new SaturdaySale();
        x.set(0, 12);
        x.set(1, 6);
        int[] prices = {65, 64, 63, 44, 26};
        for (int v : prices) {
            x.price(v);
        }
        x.sort(4, 88, 14);
        x.sort(4, 31, 0);
        x.sort(4, 47, 0);
        int count = 0;
        for (int day = 0; day < 6; day++) {
            for (int n = 1; n < 12; n++) {
                if (prices[x.best(day, n)] < prices[x.best(day, n + 1)]) {
                    DUE.is("dip " + count, x.dip(count), 100 * day + n);
                    count++;
                }
            }
        }
        DUE.is("how many", x.dip(-1), count);
        DUE.is("more than one, on more days than one", count > 1 && x.dip(count - 1) >= 100 ? 1 : 0, 1);
        DUE.is("behind the last", x.dip(count), -6);
    }

    /** What was found once must not be told again after a change. */
    private static void changesAreSeen() {
        SaturdaySale x = new SaturdaySale();
        x.set(1, 1);
        x.set(0, 1);
        x.price(20);
        x.sort(2, 20, 0);
        DUE.is("first", x.state(0, 1, 0), 10);
        x.change(0, 0, 4);
        DUE.is("chance", x.state(0, 1, 0), 20);
        x.change(0, 1, 19);
        DUE.is("worth", x.state(0, 1, 0), 0);
        x.price(19);
        DUE.is("price", x.state(0, 1, 0), 19);
        x.set(2, 20);
        DUE.is("rest", x.state(0, 1, 0), 20);
        x.set(2, 0);
        x.sort(4, 20, 30);
        DUE.is("sort", x.state(0, 1, 0), 20);
        x.set(1, 2);
        x.set(0, 2);
        DUE.is("days", x.state(0, 2, 0), 39);
        x.change(0, 2, 1);
        DUE.is("fall", x.state(0, 2, 0), 38);
    }
}
