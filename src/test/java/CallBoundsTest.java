/**
 * Promises 1 to 26, a test for each sentence that names a boundary: what is refused and with what, the
 * least and the greatest number that is taken, and where there is none. The sentence stands above its
 * test, as the document has it. What the terms themselves say is tested by TermsPartsTest.
 */
public final class CallBoundsTest {
    private static final Due DUE = new Due();

    public static void main(String[] args) {
        theSale();
        plansAndWhatIsBest();
        promises();
        madeAndRules();
        DUE.end();
    }

    private static void theSale() {
        newObject();
        setTellsWhichItWas();
        setOutside();
        priceTellsItsNumber();
        priceOutsideAlsoNotLess();
        priceFull();
        sortTellsItsNumber();
        sortOutside();
        sortFull();
        changeTellsWhichItWas();
        changeCostToWait();
        changeUnknown();
        changeOutside();
        worthUnknown();
        worthOutside();
    }

    private static void plansAndWhatIsBest() {
        planTellsWhichItWas();
        planUnknown();
        planOutside();
        bringsOutsideAndState();
        leftOutside();
        leftState();
        bestOutside();
        bestState();
        stateOutside();
        stateState();
        dipHowMany();
        dipNone();
        dipState();
    }

    private static void promises() {
        keptOutside();
        keptState();
        keepsOutside();
        keepsState();
        ratherNone();
        ratherState();
        picksNone();
        picksUnknown();
        picksOutside();
        picksState();
        picksNo();
    }

    private static void madeAndRules() {
        madeOutside();
        madeState();
        sayTellsHowMany();
        sayOutside();
        sayFull();
        wipeTellsHowManyThereWere();
        faultNone();
        ruleEmptiesTheSigns();
        ruleNo();
        asksOutside();
        asksState();
        boyOutside();
        boyState();
        worstState();
        edgeNone();
        edgeUnknown();
        edgeState();
        toldFirst();
        toldPlan();
        toldPrices();
        toldCosts();
        toldOutside();
    }

    // ---- promises 1 to 6

    /** '4 coats, 3 DAYS; no PRICES, SORTS, no RULE.' */
    private static void newObject() {
        SaturdaySale x = new SaturdaySale();
        DUE.is("coats", x.told(0), 4);
        DUE.is("days", x.told(1), 3);
        DUE.is("rest", x.told(2), 0);
        DUE.is("prices", x.told(3), 0);
        DUE.is("sorts", x.told(4), 0);
        DUE.is("signs", x.told(5), 0);
        DUE.is("no price 0", x.plan(0, 0), Sales.UNKNOWN);
        DUE.is("no sort 0", x.worth(0, 0), Sales.UNKNOWN);
        x.price(1);
        DUE.is("no rule", x.asks(0, 0), Sales.STATE);
        DUE.is("3 days, the last one", x.best(2, 4), 0);
        DUE.is("4 coats, all", x.left(4, 0), 1);
        SaturdaySale y = new SaturdaySale();
        DUE.is("another object has no prices", y.told(3), 0);
    }

    /** '0 COATS, 1 DAYS, 2 REST: which it was.' */
    private static void setTellsWhichItWas() {
        SaturdaySale x = new SaturdaySale();
        int[][] spans = {{4, 0, 12}, {3, 1, 6}, {0, 0, 99}};
        for (int which = 0; which <= 2; which++) {
            int was = spans[which][0];
            for (int v = spans[which][1]; v <= spans[which][2]; v++) {
                DUE.is("set " + which + " " + v, x.set(which, v), was);
                DUE.is("told " + which, x.told(which), v);
                was = v;
            }
            DUE.is("set again " + which, x.set(which, was), was);
        }
        DUE.is("coats are not touched by the others", x.told(0), 12);
        DUE.is("days are not touched by the rest", x.told(1), 6);
    }

    /** set: 'OUTSIDE.' */
    private static void setOutside() {
        SaturdaySale x = new SaturdaySale();
        int[][] spans = {{0, 12}, {1, 6}, {0, 99}};
        for (int which = 0; which <= 2; which++) {
            for (int v : Sales.outside(spans[which][0], spans[which][1])) {
                DUE.is("set " + which + " " + v, x.set(which, v), Sales.OUTSIDE);
            }
        }
        for (int which : Sales.outside(0, 2)) {
            DUE.is("set " + which, x.set(which, 1), Sales.OUTSIDE);
        }
    }

    /** 'A PRICE behind the others: its number.' */
    private static void priceTellsItsNumber() {
        SaturdaySale x = new SaturdaySale();
        int[] prices = {99, 98, 50, 2, 1};
        for (int number = 0; number < 5; number++) {
            DUE.is("price " + prices[number], x.price(prices[number]), number);
            DUE.is("told", x.told(20 + number), prices[number]);
            DUE.is("how many", x.told(3), number + 1);
        }
    }

    /** price: 'OUTSIDE: also not less than the one ahead'. */
    private static void priceOutsideAlsoNotLess() {
        SaturdaySale x = new SaturdaySale();
        for (int v : Sales.outside(1, 99)) {
            DUE.is("first price " + v, x.price(v), Sales.OUTSIDE);
        }
        x.price(50);
        for (int v : Sales.outside(1, 49)) {
            DUE.is("price " + v + " behind 50", x.price(v), Sales.OUTSIDE);
        }
        DUE.is("49 behind 50", x.price(49), 1);
        DUE.is("49 behind 49", x.price(49), Sales.OUTSIDE);
        DUE.is("50 behind 49", x.price(50), Sales.OUTSIDE);
    }

    /** price: 'FULL.' */
    private static void priceFull() {
        SaturdaySale x = Sales.priced(50, 40, 30, 20);
        DUE.is("the fifth", x.price(10), 4);
        DUE.is("a sixth", x.price(9), Sales.FULL);
        DUE.is("a sixth of 1", x.price(1), Sales.FULL);
        DUE.is("a sixth of 10", x.price(10), Sales.OUTSIDE);
        DUE.is("five", x.told(3), 5);
    }

    /** 'A SORT: its number.' */
    private static void sortTellsItsNumber() {
        SaturdaySale x = new SaturdaySale();
        DUE.is("least of all", x.sort(0, 0, 0), 0);
        DUE.is("most of all", x.sort(4, 99, 30), 1);
        DUE.is("between", x.sort(2, 50, 15), 2);
        int[][] due = {{0, 0, 0}, {4, 99, 30}, {2, 50, 15}};
        for (int sort = 0; sort < 3; sort++) {
            for (int what = 0; what < 3; what++) {
                DUE.is("sort " + sort + " what " + what, x.change(sort, what, 1), due[sort][what]);
            }
        }
    }

    /** sort: 'OUTSIDE'. */
    private static void sortOutside() {
        SaturdaySale x = new SaturdaySale();
        for (int v : Sales.outside(0, 4)) {
            DUE.is("chance " + v, x.sort(v, 50, 15), Sales.OUTSIDE);
        }
        for (int v : Sales.outside(0, 99)) {
            DUE.is("worth " + v, x.sort(2, v, 15), Sales.OUTSIDE);
        }
        for (int v : Sales.outside(0, 30)) {
            DUE.is("fall " + v, x.sort(2, 50, v), Sales.OUTSIDE);
        }
        DUE.is("none", x.told(4), 0);
    }

    /** sort: 'FULL.' */
    private static void sortFull() {
        SaturdaySale x = new SaturdaySale();
        x.sort(1, 1, 1);
        x.sort(1, 1, 1);
        DUE.is("the third", x.sort(1, 1, 1), 2);
        DUE.is("a fourth", x.sort(1, 1, 1), Sales.FULL);
        DUE.is("three", x.told(4), 3);
    }

    /** '0 CHANCE, 1 WORTH, 2 FALL of a SORT ..: which it was'. */
    private static void changeTellsWhichItWas() {
        int[] most = {4, 99, 30};
        int[] first = {2, 50, 15};
        for (int what = 0; what < 3; what++) {
            SaturdaySale x = new SaturdaySale();
            x.sort(2, 50, 15);
            x.sort(2, 50, 15);
            int was = first[what];
            for (int v = 0; v <= most[what]; v++) {
                DUE.is("change " + what + " to " + v, x.change(1, what, v), was);
                was = v;
            }
            for (int other = 0; other < 3; other++) {
                DUE.is("the other sort's " + other, x.change(0, other, 1), first[other]);
                if (other != what) {
                    DUE.is("its other " + other, x.change(1, other, 1), first[other]);
                }
            }
        }
    }

    /** '3 its cost to wait (-1: it does not wait): which it was (NONE: it did not wait).' */
    private static void changeCostToWait() {
        SaturdaySale x = new SaturdaySale();
        x.sort(2, 50, 15);
        DUE.is("does not wait, again", x.change(0, 3, -1), Sales.NONE);
        int was = Sales.NONE;
        for (int cost = 0; cost <= 30; cost++) {
            DUE.is("cost " + cost, x.change(0, 3, cost), was);
            DUE.is("told", x.told(30), cost);
            was = cost;
        }
        DUE.is("does not wait", x.change(0, 3, -1), 30);
        DUE.is("told", x.told(30), Sales.NONE);
        DUE.is("did not wait", x.change(0, 3, 0), Sales.NONE);
        DUE.is("waited at 0", x.change(0, 3, -1), 0);
    }

    /** change: 'UNKNOWN'. */
    private static void changeUnknown() {
        SaturdaySale x = new SaturdaySale();
        for (int count = 0; count <= 3; count++) {
            for (int sort : Sales.outside(0, count - 1)) {
                for (int what = 0; what <= 3; what++) {
                    DUE.is("change of " + sort + " of " + count, x.change(sort, what, 1), Sales.UNKNOWN);
                }
            }
            x.sort(1, 1, 1);
        }
    }

    /** change: 'OUTSIDE.' */
    private static void changeOutside() {
        SaturdaySale x = new SaturdaySale();
        x.sort(2, 50, 15);
        int[][] spans = {{0, 4}, {0, 99}, {0, 30}, {-1, 30}};
        for (int what = 0; what <= 3; what++) {
            for (int v : Sales.outside(spans[what][0], spans[what][1])) {
                DUE.is("change " + what + " to " + v, x.change(0, what, v), Sales.OUTSIDE);
            }
        }
        for (int what : Sales.outside(0, 3)) {
            DUE.is("change " + what, x.change(0, what, 1), Sales.OUTSIDE);
        }
        DUE.is("a chance of -1", x.change(0, 0, -1), Sales.OUTSIDE);
    }

    /** worth: 'UNKNOWN'. */
    private static void worthUnknown() {
        SaturdaySale x = new SaturdaySale();
        for (int count = 0; count <= 3; count++) {
            for (int sort : Sales.outside(0, count - 1)) {
                DUE.is("worth to " + sort + " of " + count, x.worth(sort, 0), Sales.UNKNOWN);
            }
            x.sort(1, 1, 1);
        }
    }

    /** worth: 'OUTSIDE: DAY 0 to 5', however many DAYS there are. */
    private static void worthOutside() {
        SaturdaySale x = new SaturdaySale();
        x.sort(1, 99, 1);
        for (int days = 1; days <= 6; days++) {
            x.set(1, days);
            for (int day : Sales.outside(0, 5)) {
                DUE.is("worth on " + day, x.worth(0, day), Sales.OUTSIDE);
            }
            DUE.is("worth on 0 of " + days, x.worth(0, 0), 99);
            DUE.is("worth on 5 of " + days, x.worth(0, 5), 94);
        }
    }

    // ---- promises 7 to 12

    /** 'A PRICE of the PLAN on a DAY (0 to 5): which it was', however many DAYS there are. */
    private static void planTellsWhichItWas() {
        SaturdaySale x = Sales.priced(50, 40, 30, 20, 10);
        x.set(1, 1);
        for (int day = 0; day <= 5; day++) {
            int was = 0;
            for (int number = 4; number >= 0; number--) {
                DUE.is("plan " + day + " " + number, x.plan(day, number), was);
                was = number;
            }
        }
        x.plan(5, 3);
        DUE.is("day 5", x.told(15), 3);
        DUE.is("day 4", x.told(14), 0);
    }

    /** plan: 'UNKNOWN: the PRICE'. */
    private static void planUnknown() {
        SaturdaySale x = new SaturdaySale();
        for (int count = 0; count <= 5; count++) {
            for (int number : Sales.outside(0, count - 1)) {
                DUE.is("plan of " + number + " of " + count, x.plan(0, number), Sales.UNKNOWN);
            }
            if (count > 0) {
                DUE.is("plan of the last of " + count, x.plan(count, count - 1), 0);
            }
            x.price(50 - count);
        }
    }

    /** plan: 'OUTSIDE.' */
    private static void planOutside() {
        SaturdaySale x = Sales.priced(50);
        for (int day : Sales.outside(0, 5)) {
            DUE.is("plan on " + day, x.plan(day, 0), Sales.OUTSIDE);
        }
    }

    /** brings: 'OUTSIDE, STATE: there are no PRICES (LOST less 2, 3).' */
    private static void bringsOutsideAndState() {
        SaturdaySale x = new SaturdaySale();
        x.sort(4, 50, 0);
        for (int part : Sales.outside(0, 1)) {
            DUE.is("part " + part + ", no prices", x.brings(part), Sales.LOST_OUTSIDE);
        }
        DUE.is("upper, no prices", x.brings(0), Sales.LOST_STATE);
        DUE.is("lower, no prices", x.brings(1), Sales.LOST_STATE);
        x.price(50);
        for (int part : Sales.outside(0, 1)) {
            DUE.is("part " + part, x.brings(part), Sales.LOST_OUTSIDE);
        }
        DUE.fraction("with a price", x.brings(0), x.brings(1), 150, 1);
    }

    /** left: 'OUTSIDE: n 0 to COATS, part'. */
    private static void leftOutside() {
        SaturdaySale x = Sales.priced(50);
        for (int coats = 0; coats <= 12; coats++) {
            x.set(0, coats);
            for (int n : Sales.outside(0, coats)) {
                DUE.is(n + " of " + coats, x.left(n, 0), Sales.LOST_OUTSIDE);
            }
            DUE.is("all " + coats, x.left(coats, 0), 1);
            DUE.is("none of " + coats, x.left(0, 0), coats == 0 ? 1 : 0);
        }
        for (int part : Sales.outside(0, 1)) {
            DUE.is("part " + part, x.left(0, part), Sales.LOST_OUTSIDE);
        }
    }

    /** left: 'STATE, likewise.' */
    private static void leftState() {
        SaturdaySale x = new SaturdaySale();
        DUE.is("no prices, 0", x.left(0, 0), Sales.LOST_STATE);
        DUE.is("no prices, 4", x.left(4, 1), Sales.LOST_STATE);
        x.price(1);
        DUE.is("a price", x.left(4, 1), 1);
    }

    /** best: 'OUTSIDE: the DAY 0 to DAYS less 1, n 1 to COATS'. */
    private static void bestOutside() {
        SaturdaySale x = Sales.priced(50);
        for (int days = 1; days <= 6; days++) {
            x.set(1, days);
            for (int day : Sales.outside(0, days - 1)) {
                DUE.is("day " + day + " of " + days, x.best(day, 1), Sales.OUTSIDE);
            }
            DUE.is("the last of " + days, x.best(days - 1, 1), 0);
        }
        for (int coats = 0; coats <= 12; coats++) {
            x.set(0, coats);
            for (int n : Sales.outside(1, coats)) {
                DUE.is(n + " of " + coats, x.best(0, n), Sales.OUTSIDE);
            }
            DUE.is("all " + coats, x.best(0, coats), coats == 0 ? Sales.OUTSIDE : 0);
        }
    }

    /** best: 'STATE: no PRICES.' */
    private static void bestState() {
        SaturdaySale x = new SaturdaySale();
        DUE.is("no prices, first", x.best(0, 1), Sales.STATE);
        DUE.is("no prices, last", x.best(2, 4), Sales.STATE);
        x.price(1);
        DUE.is("a price", x.best(2, 4), 0);
    }

    /** state: 'OUTSIDE: the DAY 0 to DAYS, n 0 to COATS, part'. */
    private static void stateOutside() {
        SaturdaySale x = Sales.priced(50);
        x.set(2, 3);
        for (int days = 1; days <= 6; days++) {
            x.set(1, days);
            for (int day : Sales.outside(0, days)) {
                DUE.is("day " + day + " of " + days, x.state(day, 1, 0), Sales.LOST_OUTSIDE);
            }
            DUE.fraction("behind the last of " + days, x.state(days, 4, 0), x.state(days, 4, 1), 12, 1);
        }
        for (int coats = 0; coats <= 12; coats++) {
            x.set(0, coats);
            for (int n : Sales.outside(0, coats)) {
                DUE.is(n + " of " + coats, x.state(0, n, 0), Sales.LOST_OUTSIDE);
            }
            DUE.is("all " + coats, x.state(0, coats, 0), 3 * coats);
            DUE.is("none of " + coats, x.state(0, 0, 0), 0);
        }
        for (int part : Sales.outside(0, 1)) {
            DUE.is("part " + part, x.state(0, 0, part), Sales.LOST_OUTSIDE);
        }
    }

    /** state: 'STATE, likewise (LOST less 2, 3).' */
    private static void stateState() {
        SaturdaySale x = new SaturdaySale();
        DUE.is("no prices, first", x.state(0, 0, 0), Sales.LOST_STATE);
        DUE.is("no prices, behind the last", x.state(3, 4, 1), Sales.LOST_STATE);
        x.price(1);
        DUE.is("a price", x.state(3, 4, 1), 1);
    }

    /** Two dips on day 0 and day 1, as a plain count of best's prices finds them. */
    private static SaturdaySale dipping() {
        SaturdaySale x = Sales.priced(65, 64, 63, 44, 26);
        x.set(0, 12);
        x.set(1, 6);
        x.sort(4, 88, 14);
        x.sort(4, 31, 0);
        x.sort(4, 47, 0);
        return x;
    }

    /** 'DIPS: how many (i = -1), the i-th by DAYS, then n: 100 times the DAY, and n'. */
    private static void dipHowMany() {
        SaturdaySale x = dipping();
        int[] prices = {65, 64, 63, 44, 26};
        int count = 0;
        for (int day = 0; day < 6; day++) {
            for (int n = 1; n <= 11; n++) {
                if (prices[x.best(day, n)] < prices[x.best(day, n + 1)]) {
                    DUE.is("dip " + count, x.dip(count), 100 * day + n);
                    count++;
                }
            }
        }
        DUE.is("how many", x.dip(-1), count);
        DUE.is("there is more than one", count > 1 ? 1 : 0, 1);
    }

    /** dip: 'NONE.' An i below -1 is taken for one that there is not. */
    private static void dipNone() {
        SaturdaySale x = dipping();
        int count = x.dip(-1);
        for (int i : Sales.outside(-1, count - 1)) {
            DUE.is("dip " + i + " of " + count, x.dip(i), Sales.NONE);
        }
        DUE.is("the last is there", x.dip(count - 1) == Sales.NONE ? 0 : 1, 1);
        x.set(0, 0);
        DUE.is("no coats, the first", x.dip(0), Sales.NONE);
        DUE.is("no coats, how many", x.dip(-1), 0);
        x.set(0, 12);
        DUE.is("12 again", x.dip(-1), count);
    }

    /** dip: 'STATE: no PRICES.' */
    private static void dipState() {
        SaturdaySale x = new SaturdaySale();
        int[] all = {-1, 0, 1, -2, Integer.MAX_VALUE, Integer.MIN_VALUE};
        for (int i : all) {
            DUE.is("no prices, dip " + i, x.dip(i), Sales.STATE);
        }
        x.price(1);
        DUE.is("a price", x.dip(-1), 0);
    }

    // ---- promises 13 to 16

    /** kept: 'OUTSIDE: the DAY 0 to DAYS less 1, what'. */
    private static void keptOutside() {
        SaturdaySale x = Sales.priced(50);
        for (int days = 1; days <= 6; days++) {
            x.set(1, days);
            for (int what = 0; what <= 2; what++) {
                for (int day : Sales.outside(0, days - 1)) {
                    DUE.is("kept " + what + " on " + day + " of " + days, x.kept(what, day), Sales.OUTSIDE);
                }
                DUE.is("kept " + what + " on the first day", x.kept(what, 0), 0);
                DUE.is("kept " + what + " on the last day", x.kept(what, days - 1), 0);
            }
        }
        for (int what : Sales.outside(0, 2)) {
            DUE.is("kept " + what, x.kept(what, 0), Sales.OUTSIDE);
        }
    }

    /** kept: 'STATE: no PRICES.' */
    private static void keptState() {
        SaturdaySale x = new SaturdaySale();
        for (int what = 0; what <= 2; what++) {
            DUE.is("no prices, kept " + what, x.kept(what, 0), Sales.STATE);
        }
        x.price(1);
        for (int what = 0; what <= 2; what++) {
            DUE.is("a price, kept " + what, x.kept(what, 0), 0);
        }
    }

    /** keeps: 'OUTSIDE'. */
    private static void keepsOutside() {
        SaturdaySale x = Sales.priced(50);
        for (int what : Sales.outside(0, 4)) {
            DUE.is("keeps " + what, x.keeps(what, 0), Sales.LOST_OUTSIDE);
        }
        for (int what = 0; what <= 4; what++) {
            for (int part : Sales.outside(0, 1)) {
                DUE.is("keeps " + what + " part " + part, x.keeps(what, part), Sales.LOST_OUTSIDE);
            }
            DUE.fraction("keeps " + what, x.keeps(what, 0), x.keeps(what, 1), 0, 1);
        }
    }

    /** keeps: 'STATE.' */
    private static void keepsState() {
        SaturdaySale x = new SaturdaySale();
        for (int what = 0; what <= 4; what++) {
            DUE.is("no prices, keeps " + what, x.keeps(what, 0), Sales.LOST_STATE);
            DUE.is("no prices, keeps " + what + ", lower", x.keeps(what, 1), Sales.LOST_STATE);
        }
    }

    /** 'RATHER: 100 times the DAY, and the coats; NONE.' */
    private static void ratherNone() {
        SaturdaySale x = Sales.priced(99, 40);
        DUE.is("nobody comes", x.rather(), Sales.NONE);
        x.sort(4, 40, 30);
        x.sort(1, 99, 0);
        DUE.is("4 coats", x.rather(), 4);
        x.set(0, 0);
        DUE.is("no coats", x.rather(), Sales.NONE);
        x.set(0, 4);
        x.set(1, 1);
        DUE.is("one day", x.rather(), Sales.NONE);
        SaturdaySale y = Sales.priced(40);
        y.sort(4, 40, 30);
        DUE.is("one price", y.rather(), Sales.NONE);
    }

    /** rather: 'STATE: no PRICES.' */
    private static void ratherState() {
        SaturdaySale x = new SaturdaySale();
        DUE.is("no prices", x.rather(), Sales.STATE);
        x.set(0, 0);
        DUE.is("no prices, no coats", x.rather(), Sales.STATE);
        x.price(1);
        DUE.is("a price", x.rather(), Sales.NONE);
    }

    private static SaturdaySale waiting(int worth, int cost) {
        SaturdaySale x = Sales.priced(50, 40);
        x.sort(4, worth, 0);
        x.change(0, 3, cost);
        return x;
    }

    /** 'The DAY that a buyer of a SORT picks by the PLAN, coming on a DAY; NONE: goes.' */
    private static void picksNone() {
        DUE.is("worth the price", waiting(50, 0).picks(0, 0), 0);
        DUE.is("worth less", waiting(49, 0).picks(0, 0), Sales.NONE);
        SaturdaySale x = waiting(49, 9);
        x.plan(1, 1);
        DUE.is("worth less now, as much as it costs later", x.picks(0, 0), 1);
        x.change(0, 3, 10);
        DUE.is("worth less now, and less than it costs later", x.picks(0, 0), Sales.NONE);
        DUE.is("coming on the last day", x.picks(0, 2), Sales.NONE);
        x.change(0, 0, 0);
        DUE.is("whether a buyer comes at all does not matter", x.picks(0, 1), 1);
        x.set(0, 0);
        DUE.is("nor whether there are coats", x.picks(0, 1), 1);
    }

    /** picks: 'UNKNOWN'. */
    private static void picksUnknown() {
        SaturdaySale x = Sales.priced(50);
        for (int count = 0; count <= 3; count++) {
            for (int sort : Sales.outside(0, count - 1)) {
                DUE.is("picks of " + sort + " of " + count, x.picks(sort, 0), Sales.UNKNOWN);
            }
            x.sort(4, 50, 0);
            x.change(count, 3, 0);
        }
        DUE.is("the third", x.picks(2, 0), 0);
    }

    /** picks: 'OUTSIDE: the DAY 0 to DAYS less 1'. */
    private static void picksOutside() {
        SaturdaySale x = waiting(50, 0);
        for (int days = 1; days <= 6; days++) {
            x.set(1, days);
            for (int day : Sales.outside(0, days - 1)) {
                DUE.is("picks on " + day + " of " + days, x.picks(0, day), Sales.OUTSIDE);
            }
            DUE.is("picks on the last of " + days, x.picks(0, days - 1), days - 1);
            DUE.is("picks on the first of " + days, x.picks(0, 0), 0);
        }
    }

    /** picks: 'STATE: no PRICES'. */
    private static void picksState() {
        SaturdaySale x = new SaturdaySale();
        x.sort(4, 50, 0);
        x.change(0, 3, 0);
        DUE.is("no prices", x.picks(0, 0), Sales.STATE);
        x.price(50);
        DUE.is("a price", x.picks(0, 0), 0);
    }

    /** picks: 'NO: the SORT does not wait.' */
    private static void picksNo() {
        SaturdaySale x = waiting(50, 0);
        x.sort(4, 50, 0);
        DUE.is("never waited", x.picks(1, 0), Sales.NO);
        DUE.is("waits", x.picks(0, 0), 0);
        x.change(0, 3, -1);
        DUE.is("waits no more", x.picks(0, 0), Sales.NO);
    }

    // ---- promises 17 to 26

    /** made: 'OUTSIDE' (COST 0 to 99). */
    private static void madeOutside() {
        SaturdaySale x = Sales.priced(99);
        x.sort(4, 99, 0);
        for (int cost : Sales.outside(0, 99)) {
            DUE.is("cost " + cost, x.made(cost), Sales.OUTSIDE);
        }
        DUE.is("cost 0", x.made(0), 3);
        DUE.is("cost 98", x.made(98), 3);
        DUE.is("cost 99", x.made(99), 0);
    }

    /** made: 'STATE: no PRICES.' */
    private static void madeState() {
        SaturdaySale x = new SaturdaySale();
        DUE.is("no prices, cost 0", x.made(0), Sales.STATE);
        DUE.is("no prices, cost 99", x.made(99), Sales.STATE);
        x.price(1);
        DUE.is("a price", x.made(0), 0);
    }

    /** 'A sign more: how many.' */
    private static void sayTellsHowMany() {
        SaturdaySale x = new SaturdaySale();
        for (int count = 1; count <= 40; count++) {
            DUE.is("sign " + count, x.say(33 + count), count);
            DUE.is("told", x.told(5), count);
        }
    }

    /** say: 'OUTSIDE'. */
    private static void sayOutside() {
        SaturdaySale x = new SaturdaySale();
        for (int sign : Sales.outside(33, 126)) {
            DUE.is("sign " + sign, x.say(sign), Sales.OUTSIDE);
        }
        DUE.is("sign 33", x.say(33), 1);
        DUE.is("sign 126", x.say(126), 2);
    }

    /** say: 'FULL.' */
    private static void sayFull() {
        SaturdaySale x = new SaturdaySale();
        for (int count = 1; count <= 39; count++) {
            x.say('0');
        }
        DUE.is("sign 40", x.say('0'), 40);
        DUE.is("sign 41", x.say('0'), Sales.FULL);
        DUE.is("sign 41 again", x.say('l'), Sales.FULL);
        x.wipe();
        DUE.is("behind a wipe", x.say('0'), 1);
    }

    /** 'Signs go: how many there were.' */
    private static void wipeTellsHowManyThereWere() {
        SaturdaySale x = Sales.priced(20, 10);
        DUE.is("no signs", x.wipe(), 0);
        for (int count = 1; count <= 40; count++) {
            x.say('1');
        }
        DUE.is("40 signs", x.wipe(), 40);
        DUE.is("none then", x.wipe(), 0);
        DUE.is("told", x.told(5), 0);
        DUE.is("what is said anew is all there is", x.say('1'), 1);
        DUE.is("its rule", x.rule(), 0);
        x.say('0');
        DUE.is("one sign", x.wipe(), 1);
        DUE.is("the rule stays", x.asks(0, 0), 1);
    }

    /** 'THE FAULT; NONE.' */
    private static void faultNone() {
        SaturdaySale x = new SaturdaySale();
        DUE.is("no signs", x.fault(), 0);
        x.say('4');
        DUE.is("the shortest rule", x.fault(), Sales.NONE);
        DUE.is("asked twice", x.fault(), Sales.NONE);
        x.say('4');
        DUE.is("a sign too many", x.fault(), 1);
        x.wipe();
        DUE.is("no signs again", x.fault(), 0);
    }

    /** 'THE BOY's RULE is the signs' (they are empty then): CLAUSES.' */
    private static void ruleEmptiesTheSigns() {
        SaturdaySale x = Sales.priced(20, 10);
        Sales.say(x, "1");
        DUE.is("no clause", x.rule(), 0);
        DUE.is("no signs", x.told(5), 0);
        DUE.is("more must come", x.fault(), 0);
        DUE.is("asks by it", x.asks(0, 0), 1);
        String clause = "l<1:0;";
        StringBuilder text = new StringBuilder();
        for (int clauses = 1; clauses <= 6; clauses++) {
            text.append(clause);
            Sales.say(x, text + "1");
            DUE.is(clauses + " clauses", x.rule(), clauses);
            DUE.is("no signs behind " + clauses, x.told(5), 0);
        }
        DUE.is("the clause is so", x.asks(0, 0), 0);
        Sales.say(x, "1");
        DUE.is("no clause again", x.rule(), 0);
        DUE.is("the clauses are gone", x.asks(0, 0), 1);
    }

    /** rule: 'NO: there is a FAULT.' */
    private static void ruleNo() {
        SaturdaySale x = Sales.priced(20, 10);
        DUE.is("no signs", x.rule(), Sales.NO);
        DUE.is("no rule by it", x.asks(0, 0), Sales.STATE);
        Sales.say(x, "1");
        x.rule();
        DUE.is("no signs behind a rule", x.rule(), Sales.NO);
        Sales.say(x, "l<1:0;");
        DUE.is("more must come", x.rule(), Sales.NO);
        DUE.is("the signs stay", x.told(5), 6);
        DUE.is("the rule stays", x.asks(0, 0), 1);
        Sales.say(x, "0x");
        DUE.is("a sign too many", x.rule(), Sales.NO);
        DUE.is("the signs stay again", x.told(5), 8);
        DUE.is("the rule stays again", x.asks(0, 0), 1);
    }

    /** 'on a DAY (0 to 5) with n (0 to 12) coats. OUTSIDE', whatever DAYS and COATS are. */
    private static void asksOutside() {
        SaturdaySale x = Sales.ruled("d=5:1;l=12:1;0", 20, 10);
        x.set(0, 0);
        x.set(1, 1);
        for (int day : Sales.outside(0, 5)) {
            DUE.is("day " + day, x.asks(day, 0), Sales.OUTSIDE);
        }
        for (int n : Sales.outside(0, 12)) {
            DUE.is("n " + n, x.asks(0, n), Sales.OUTSIDE);
        }
        DUE.is("first day, no coats", x.asks(0, 0), 0);
        DUE.is("last day, no coats", x.asks(5, 0), 1);
        DUE.is("first day, 12 coats", x.asks(0, 12), 1);
        DUE.is("day 4, 11 coats", x.asks(4, 11), 0);
    }

    /** asks: 'STATE: no PRICES, no RULE.' */
    private static void asksState() {
        SaturdaySale x = new SaturdaySale();
        DUE.is("neither", x.asks(0, 0), Sales.STATE);
        Sales.say(x, "0");
        x.rule();
        DUE.is("no prices", x.asks(0, 0), Sales.STATE);
        x.price(1);
        DUE.is("both", x.asks(0, 0), 0);
        SaturdaySale y = Sales.priced(1);
        DUE.is("no rule", y.asks(0, 0), Sales.STATE);
        Sales.say(y, "0");
        DUE.is("signs are no rule yet", y.asks(0, 0), Sales.STATE);
        y.rule();
        DUE.is("both, too", y.asks(0, 0), 0);
    }

    /** boy: 'OUTSIDE'. */
    private static void boyOutside() {
        SaturdaySale x = Sales.ruled("0", 20);
        for (int part : Sales.outside(0, 1)) {
            DUE.is("part " + part, x.boy(part), Sales.LOST_OUTSIDE);
        }
        DUE.fraction("boy", x.boy(0), x.boy(1), 0, 1);
    }

    /** boy: 'STATE, likewise.' */
    private static void boyState() {
        SaturdaySale x = new SaturdaySale();
        DUE.is("neither", x.boy(0), Sales.LOST_STATE);
        Sales.say(x, "0");
        x.rule();
        DUE.is("no prices", x.boy(0), Sales.LOST_STATE);
        x.price(1);
        DUE.is("both", x.boy(1), 1);
        SaturdaySale y = Sales.priced(1);
        DUE.is("no rule", y.boy(0), Sales.LOST_STATE);
        Sales.say(y, "0");
        DUE.is("signs are no rule yet", y.boy(1), Sales.LOST_STATE);
    }

    /** worst: 'STATE, likewise.' No coats are no hindrance: it looks at 1 to 12 of them. */
    private static void worstState() {
        SaturdaySale x = new SaturdaySale();
        DUE.is("neither", x.worst(), Sales.STATE);
        Sales.say(x, "0");
        x.rule();
        DUE.is("no prices", x.worst(), Sales.STATE);
        x.price(1);
        DUE.is("both", x.worst(), 1);
        x.set(0, 0);
        DUE.is("no coats", x.worst(), 1);
        SaturdaySale y = Sales.priced(1);
        DUE.is("no rule", y.worst(), Sales.STATE);
        Sales.say(y, "0");
        DUE.is("signs are no rule yet", y.worst(), Sales.STATE);
    }

    /** One day, one coat: a sure 20, or 30 by a chance. */
    private static SaturdaySale edged(int chance) {
        SaturdaySale x = Sales.priced(30, 20);
        x.set(0, 1);
        x.set(1, 1);
        x.sort(4, 20, 0);
        x.sort(chance, 30, 0);
        return x;
    }

    /** 'EDGE: the CHANCE by then; NONE: no change does.' */
    private static void edgeNone() {
        DUE.is("up to 3", edged(0).edge(1), 3);
        DUE.is("down to 2", edged(4).edge(1), 2);
        DUE.is("30 is sure", edged(4).edge(0), Sales.NONE);
        SaturdaySale x = Sales.priced(30);
        x.sort(2, 30, 0);
        DUE.is("one price", x.edge(0), Sales.NONE);
        x.price(20);
        x.change(0, 1, 19);
        DUE.is("worth too little", x.edge(0), Sales.NONE);
        DUE.is("the chance is as it was", x.change(0, 0, 2), 2);
    }

    /** edge: 'UNKNOWN'. */
    private static void edgeUnknown() {
        SaturdaySale x = Sales.priced(30);
        for (int count = 0; count <= 3; count++) {
            for (int sort : Sales.outside(0, count - 1)) {
                DUE.is("edge of " + sort + " of " + count, x.edge(sort), Sales.UNKNOWN);
            }
            x.sort(1, 1, 1);
        }
        DUE.is("the third", x.edge(2), Sales.NONE);
    }

    /** edge: 'STATE: no PRICES, no coats.' */
    private static void edgeState() {
        SaturdaySale x = new SaturdaySale();
        x.sort(2, 30, 0);
        DUE.is("no prices", x.edge(0), Sales.STATE);
        x.set(0, 0);
        DUE.is("neither", x.edge(0), Sales.STATE);
        x.price(30);
        DUE.is("no coats", x.edge(0), Sales.STATE);
        x.set(0, 1);
        DUE.is("both", x.edge(0), Sales.NONE);
        x.set(0, 12);
        DUE.is("12 coats", x.edge(0), Sales.NONE);
    }

    /** '0 COATS, 1 DAYS, 2 REST, 3 PRICES, 4 SORTS, 5 signs': at their least and their most. */
    private static void toldFirst() {
        int[] most = {12, 6, 99, 5, 3, 40};
        SaturdaySale x = Sales.full();
        for (int what = 0; what <= 5; what++) {
            DUE.is("most of " + what, x.told(what), most[what]);
        }
        SaturdaySale y = new SaturdaySale();
        y.set(0, 0);
        y.set(1, 1);
        int[] least = {0, 1, 0, 0, 0, 0};
        for (int what = 0; what <= 5; what++) {
            DUE.is("least of " + what, y.told(what), least[what]);
        }
    }

    /** '10 to 15 the PLAN', of all six days, however many there are. */
    private static void toldPlan() {
        SaturdaySale x = new SaturdaySale();
        DUE.is("0 without prices", x.told(15), 0);
        x = Sales.priced(50, 40, 30, 20, 10);
        x.set(1, 1);
        int[] numbers = {4, 1, 3, 0, 2, 4};
        Sales.plan(x, numbers);
        for (int day = 0; day <= 5; day++) {
            DUE.is("plan on " + day, x.told(10 + day), numbers[day]);
        }
    }

    /** '20 to 24 PRICES (NONE)'. */
    private static void toldPrices() {
        SaturdaySale x = new SaturdaySale();
        for (int count = 0; count <= 5; count++) {
            for (int number = 0; number < 5; number++) {
                DUE.is("price " + number + " of " + count, x.told(20 + number), number < count ? 50 - number : Sales.NONE);
            }
            x.price(50 - count);
        }
    }

    /** '30 to 32 costs to wait of SORTS (NONE)': no such sort, or one that does not wait. */
    private static void toldCosts() {
        SaturdaySale x = new SaturdaySale();
        for (int count = 0; count <= 3; count++) {
            for (int sort = 0; sort < 3; sort++) {
                DUE.is("cost of " + sort + " of " + count, x.told(30 + sort), sort < count ? 15 * sort : Sales.NONE);
            }
            x.sort(1, 1, 1);
            if (count < 3) {
                DUE.is("does not wait", x.told(30 + count), Sales.NONE);
            }
            x.change(count, 3, 15 * count);
        }
        x.change(2, 3, -1);
        DUE.is("waits no more", x.told(32), Sales.NONE);
    }

    /** told: 'OUTSIDE.' */
    private static void toldOutside() {
        SaturdaySale x = Sales.full();
        for (int what = -300; what <= 300; what++) {
            boolean there = what >= 0 && what <= 5 || what >= 10 && what <= 15 || what >= 20 && what <= 24
                || what >= 30 && what <= 32;
            if (!there) {
                DUE.is("told " + what, toldOf(what), Sales.OUTSIDE);
            }
        }
        int[] far = {Integer.MIN_VALUE, Integer.MIN_VALUE + 10, Integer.MAX_VALUE, 0x10000, 0x10000 + 20, 0x7f00001e};
        for (int what : far) {
            DUE.is("told " + what, x.told(what), Sales.OUTSIDE);
        }
    }

    private static int toldOf(int what) {
        return new SaturdaySale().told(what);
    }
}
