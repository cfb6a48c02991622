/**
 * Parts 1 to 4 of 'Terms', a test for each sentence that names a boundary. The sentence stands above
 * its test, as the document has it.
 */
public final class TermsPartsTest {
    private static final Due DUE = new Due();

    public static void main(String[] args) {
        part1();
        part2();
        part3();
        part4();
        DUE.end();
    }

    private static void part1() {
        leastAndMostCoats();
        leastAndMostDays();
        fivePricesAtMost();
        aPriceIs1To99AndLessThanTheOneAhead();
        leastAndMostRest();
        threeSortsAtMost();
        chanceZeroNeverComesAndFourAlwaysDoes();
        worthIs0To99();
        fallIs0To30();
        worthIsNeverBelow0();
        buysIfACoatIsLeft();
        buysIfWorthThePriceOrMore();
        eachComesByItself();
    }

    private static void part2() {
        thePlanIs0AtFirst();
        restOfThoseThatAreLeft();
        leftBehindTheLastDay();
        bestOfSeveralTheLeastNumber();
        bestIsBestOnLaterDaysToo();
        dipsFrom1ToAllLess1();
        dipsAreLowerPricesOnly();
    }

    private static void part3() {
        keptNeverRises();
        keptIsTheFirstByDays();
        onceHasTwoPricesAtMost();
        onceIsTheFirstByDays();
        theLastOfAllPlans();
        promiseCosts();
        rather();
        nobodyWaitsAtFirst();
        costOfWaitingIs0To30();
        picksThisOrALaterDay();
        picksTheGreatest();
        picksTheFirstSuch();
        goesIfBelow0();
        whoPicksADayBuysIfACoatIsLeft();
        metBestNeverRises();
        metBestIsTheFirstByDays();
    }

    private static void part4() {
        madeIs0To12();
        madeIsTheLeastSuch();
        upTo40Signs();
        signsAre33To126();
        factsAndCompares();
        aDigitOrTwo();
        theNumberIs0To4();
        theFirstClauseThatIsSo();
        elseTheLastOne();
        aPriceThatThereIsNot();
        faultOfTheFirstSign();
        faultIfMoreMustCome();
        boyWithNobodyWaiting();
        worstIs1To12();
        worstIsTheLeastSuch();
        edgeUpOrDown();
        edgeOfLikeOnesDown();
        edgeIsTheLeastChange();
        edgeIsNoChanceBelow0OrAbove4();
    }

    // ---- 1

    /** 'COATS 0 to 12 (4 at first)': at both ends the sale goes on. */
    private static void leastAndMostCoats() {
        SaturdaySale x = Sales.priced(10);
        x.sort(4, 10, 0);
        DUE.is("4 at first", x.told(0), 4);
        DUE.is("0 coats", x.set(0, 0), 4);
        DUE.fraction("0 coats bring", x.brings(0), x.brings(1), 0, 1);
        DUE.is("12 coats", x.set(0, 12), 0);
        x.set(2, 1);
        DUE.fraction("12 coats bring", x.brings(0), x.brings(1), 3 * 10 + 9, 1);
        for (int v : Sales.outside(0, 12)) {
            DUE.is(v + " coats", x.set(0, v), Sales.OUTSIDE);
        }
        DUE.is("still 12", x.told(0), 12);
    }

    /** 'DAYS 1 to 6 (3 at first), numbered from 0 on'. */
    private static void leastAndMostDays() {
        SaturdaySale x = Sales.priced(10);
        x.set(0, 12);
        x.sort(4, 10, 0);
        DUE.is("3 at first", x.told(1), 3);
        DUE.is("3 days bring", x.brings(0), 30);
        DUE.is("1 day", x.set(1, 1), 3);
        DUE.is("1 day brings", x.brings(0), 10);
        DUE.is("the first day", x.best(0, 1), 0);
        DUE.is("no second day", x.best(1, 1), Sales.OUTSIDE);
        DUE.is("6 days", x.set(1, 6), 1);
        DUE.is("6 days bring", x.brings(0), 60);
        DUE.is("the sixth day", x.best(5, 1), 0);
        DUE.is("no seventh day", x.best(6, 1), Sales.OUTSIDE);
        for (int v : Sales.outside(1, 6)) {
            DUE.is(v + " days", x.set(1, v), Sales.OUTSIDE);
        }
        DUE.is("still 6", x.told(1), 6);
    }

    /** 'PRICES, 5 at most, numbered from 0 on'. */
    private static void fivePricesAtMost() {
        SaturdaySale x = new SaturdaySale();
        for (int number = 0; number < 5; number++) {
            DUE.is("price " + number, x.price(90 - number), number);
        }
        DUE.is("a sixth", x.price(1), Sales.FULL);
        DUE.is("plan of the fifth", x.plan(0, 4), 0);
        DUE.is("plan of a sixth", x.plan(0, 5), Sales.UNKNOWN);
    }

    /** '(1 to 99, each less than the one ahead of it)'. */
    private static void aPriceIs1To99AndLessThanTheOneAhead() {
        SaturdaySale x = new SaturdaySale();
        for (int v : Sales.outside(1, 99)) {
            DUE.is("price " + v, x.price(v), Sales.OUTSIDE);
        }
        DUE.is("99", x.price(99), 0);
        DUE.is("99 again", x.price(99), Sales.OUTSIDE);
        DUE.is("98", x.price(98), 1);
        DUE.is("99 behind 98", x.price(99), Sales.OUTSIDE);
        DUE.is("1", x.price(1), 2);
        DUE.is("1 again", x.price(1), Sales.OUTSIDE);
        DUE.is("0 behind 1", x.price(0), Sales.OUTSIDE);
        DUE.is("three", x.told(3), 3);
    }

    /** 'REST: what a coat that is left brings behind the last DAY (0 to 99; 0 at first)'. */
    private static void leastAndMostRest() {
        SaturdaySale x = Sales.priced(10);
        x.set(0, 12);
        DUE.is("0 at first", x.told(2), 0);
        DUE.is("brings nothing", x.brings(0), 0);
        DUE.is("99", x.set(2, 99), 0);
        DUE.is("brings 99 each", x.brings(0), 12 * 99);
        for (int v : Sales.outside(0, 99)) {
            DUE.is("rest " + v, x.set(2, v), Sales.OUTSIDE);
        }
        DUE.is("0", x.set(2, 0), 99);
        DUE.is("brings nothing again", x.brings(0), 0);
    }

    /** 'SORTS, 3 at most, numbered from 0 on'. */
    private static void threeSortsAtMost() {
        SaturdaySale x = Sales.priced(10);
        for (int number = 0; number < 3; number++) {
            DUE.is("worth to a sort to come", x.worth(number, 0), Sales.UNKNOWN);
            DUE.is("sort " + number, x.sort(4, 10 + number, 0), number);
            DUE.is("worth to it", x.worth(number, 0), 10 + number);
        }
        DUE.is("a fourth", x.sort(4, 10, 0), Sales.FULL);
        DUE.is("worth to a fourth", x.worth(3, 0), Sales.UNKNOWN);
        x.set(0, 12);
        DUE.is("three buy on each day", x.brings(0), 90);
    }

    /** 'comes with CHANCE quarters (0 to 4)'. */
    private static void chanceZeroNeverComesAndFourAlwaysDoes() {
        SaturdaySale x = Sales.priced(10);
        for (int chance : Sales.outside(0, 4)) {
            DUE.is("chance " + chance, x.sort(chance, 10, 0), Sales.OUTSIDE);
        }
        x.set(1, 1);
        x.sort(0, 10, 0);
        DUE.fraction("0 quarters", x.left(4, 0), x.left(4, 1), 1, 1);
        int[][] comes = {{0, 1}, {1, 4}, {1, 2}, {3, 4}, {1, 1}};
        for (int chance = 0; chance <= 4; chance++) {
            x.change(0, 0, chance);
            DUE.fraction(chance + " quarters", x.left(3, 0), x.left(3, 1), comes[chance][0], comes[chance][1]);
        }
    }

    /** 'a coat is worth WORTH (0 to 99)'. */
    private static void worthIs0To99() {
        SaturdaySale x = Sales.priced(99, 1);
        for (int worth : Sales.outside(0, 99)) {
            DUE.is("worth " + worth, x.sort(4, worth, 0), Sales.OUTSIDE);
        }
        x.set(1, 1);
        DUE.is("worth 0", x.sort(4, 0, 0), 0);
        Sales.plan(x, 1);
        DUE.is("does not buy at 1", x.brings(0), 0);
        DUE.is("worth 99", x.change(0, 1, 99), 0);
        Sales.plan(x, 0);
        DUE.is("buys at 99", x.brings(0), 99);
    }

    /** 'FALL (0 to 30) less for each DAY'. */
    private static void fallIs0To30() {
        SaturdaySale x = new SaturdaySale();
        for (int fall : Sales.outside(0, 30)) {
            DUE.is("fall " + fall, x.sort(4, 99, fall), Sales.OUTSIDE);
        }
        DUE.is("fall 0", x.sort(4, 99, 0), 0);
        DUE.is("fall 30", x.sort(4, 99, 30), 1);
        int[] falls = {99, 69, 39, 9, 0, 0};
        for (int day = 0; day <= 5; day++) {
            DUE.is("without a fall on " + day, x.worth(0, day), 99);
            DUE.is("with a fall on " + day, x.worth(1, day), falls[day]);
        }
    }

    /** 'never below 0'. */
    private static void worthIsNeverBelow0() {
        SaturdaySale x = new SaturdaySale();
        x.sort(0, 30, 30);
        x.sort(0, 29, 30);
        x.sort(0, 0, 30);
        for (int day = 1; day <= 5; day++) {
            for (int sort = 0; sort < 3; sort++) {
                DUE.is("worth to " + sort + " on " + day, x.worth(sort, day), 0);
            }
        }
    }

    /** 'BUYS, if a coat is left'. */
    private static void buysIfACoatIsLeft() {
        SaturdaySale x = Sales.priced(10);
        x.sort(4, 10, 0);
        x.sort(4, 10, 0);
        int[] brings = {0, 10, 20, 30, 40, 50, 60, 60};
        for (int coats = 0; coats < brings.length; coats++) {
            x.set(0, coats);
            DUE.is(coats + " coats bring", x.brings(0), brings[coats]);
            DUE.is(coats + " coats, none is left", x.left(0, 0), coats <= 6 ? 1 : 0);
        }
    }

    /** 'and it is worth the price of that DAY or more'. */
    private static void buysIfWorthThePriceOrMore() {
        SaturdaySale x = Sales.priced(50, 40);
        x.set(1, 2);
        x.sort(4, 50, 10);
        Sales.plan(x, 0, 1);
        DUE.is("worth 50 and 40", x.brings(0), 90);
        x.change(0, 1, 49);
        DUE.is("worth 49 and 39", x.brings(0), 0);
        x.change(0, 2, 9);
        DUE.is("worth 49 and 40", x.brings(0), 40);
        x.change(0, 1, 51);
        x.change(0, 2, 12);
        DUE.is("worth 51 and 39", x.brings(0), 50);
    }

    /** 'each by itself'. */
    private static void eachComesByItself() {
        SaturdaySale x = Sales.priced(10);
        x.set(1, 1);
        x.sort(1, 10, 0);
        x.sort(1, 10, 0);
        x.sort(1, 10, 0);
        int[] odds = {0, 1, 9, 27, 27};
        for (int n = 0; n <= 4; n++) {
            DUE.fraction(n + " left", x.left(n, 0), x.left(n, 1), odds[n], odds[n] == 0 ? 1 : 64);
        }
    }

    // ---- 2

    /** 'A PLAN tells a PRICE by its number for each DAY (0 at first)'. */
    private static void thePlanIs0AtFirst() {
        SaturdaySale x = Sales.priced(20, 10);
        for (int day = 0; day <= 5; day++) {
            DUE.is("told on " + day, x.told(10 + day), 0);
            DUE.is("was on " + day, x.plan(day, 1), 0);
            DUE.is("told then on " + day, x.told(10 + day), 1);
        }
        // told ahead for days that there are only later
        x.set(1, 6);
        x.set(0, 12);
        x.sort(4, 10, 0);
        DUE.is("six days at 10", x.brings(0), 60);
    }

    /** 'and REST of those that are left'. */
    private static void restOfThoseThatAreLeft() {
        SaturdaySale x = Sales.priced(10);
        x.set(2, 99);
        DUE.is("all are left", x.brings(0), 4 * 99);
        x.sort(4, 10, 0);
        DUE.is("one is left", x.brings(0), 30 + 99);
        x.set(0, 3);
        DUE.is("none is left", x.brings(0), 30);
        x.set(0, 0);
        DUE.is("none was there", x.brings(0), 0);
    }

    /** 'LEFT: the odds that so many are left behind the last DAY'. */
    private static void leftBehindTheLastDay() {
        SaturdaySale x = Sales.priced(10);
        x.set(0, 2);
        x.sort(2, 10, 0);
        int[] lower = {2, 8, 8};
        int[] upper = {1, 3, 1};
        for (int n = 0; n <= 2; n++) {
            DUE.fraction(n + " left", x.left(n, 0), x.left(n, 1), upper[n], lower[n]);
        }
        x.set(0, 0);
        DUE.fraction("0 of 0 left", x.left(0, 0), x.left(0, 1), 1, 1);
        x.set(0, 12);
        DUE.fraction("12 of 12 left", x.left(12, 0), x.left(12, 1), 1, 8);
        DUE.fraction("0 of 12 left", x.left(0, 0), x.left(0, 1), 0, 1);
    }

    /** 'of several the least number (the highest price)'. */
    private static void bestOfSeveralTheLeastNumber() {
        SaturdaySale x = Sales.priced(40, 20, 10);
        x.set(1, 1);
        DUE.is("nobody comes", x.best(0, 1), 0);
        x.sort(1, 40, 0);
        x.sort(4, 10, 0);
        DUE.is("10, 5 and 10", x.best(0, 1), 0);
        x.change(0, 1, 39);
        DUE.is("0, 5 and 10", x.best(0, 1), 2);
        x.change(0, 0, 2);
        DUE.is("0, 10 and 10", x.best(0, 1), 1);
    }

    /**
     * 'if that is best on all later DAYS, too': one coat; now a sure 30 or half of 40. If 30 were
     * asked for on the last day it would be half of 40 and half of 30 (35), by what is best there.
     */
    private static void bestIsBestOnLaterDaysToo() {
        SaturdaySale x = Sales.priced(40, 30);
        x.set(0, 1);
        x.set(1, 1);
        x.sort(2, 40, 0);
        x.sort(4, 30, 0);
        DUE.is("last day", x.best(0, 1), 1);
        x.set(1, 2);
        DUE.is("ahead of it", x.best(0, 1), 0);
        DUE.fraction("worth of the state", x.state(0, 1, 0), x.state(0, 1, 1), 35, 1);
    }

    /** The sale of PlanTest.dip: best's price with 3 coats is lower than with 4, on day 0. */
    private static SaturdaySale dipping() {
        SaturdaySale x = Sales.priced(85, 65, 44, 26);
        x.set(1, 2);
        x.sort(4, 93, 11);
        x.sort(4, 49, 19);
        x.sort(4, 30, 0);
        return x;
    }

    /** 'a DAY and a number of coats n (1 to all less 1)'. */
    private static void dipsFrom1ToAllLess1() {
        SaturdaySale x = dipping();
        DUE.is("n is all less 1", x.dip(0), 3);
        x.set(0, 3);
        DUE.is("n would be all", x.dip(-1), 0);
        x.set(0, 1);
        DUE.is("one coat", x.dip(-1), 0);
        x.set(0, 0);
        DUE.is("no coats", x.dip(-1), 0);
        DUE.is("no coats, the first", x.dip(0), Sales.NONE);
        x.set(0, 12);
        DUE.is("12 coats, the first", x.dip(0), 3);
        SaturdaySale y = Sales.priced(65, 47, 35);
        y.set(0, 12);
        y.set(1, 5);
        y.sort(4, 56, 4);
        y.sort(4, 72, 10);
        y.sort(4, 83, 0);
        DUE.is("11 of 12, how many", y.dip(-1), 1);
        DUE.is("11 of 12", y.dip(0), 11);
        y.set(0, 11);
        DUE.is("11 of 11", y.dip(-1), 0);
    }

    /** 'such that BEST's price with n is lower than with n and 1': like and higher ones are none. */
    private static void dipsAreLowerPricesOnly() {
        SaturdaySale x = Sales.priced(20, 10);
        x.set(1, 1);
        x.sort(4, 20, 0);
        x.sort(4, 10, 0);
        x.sort(4, 10, 0);
        DUE.is("higher with 2", x.best(0, 2), 0);
        DUE.is("lower with 3", x.best(0, 3), 1);
        DUE.is("like with 4", x.best(0, 4), 1);
        DUE.is("no dip", x.dip(-1), 0);
    }

    // ---- 3

    /**
     * Two days. Sort 0 is sure and to it a coat is worth 40, then 10; sort 1 comes with a quarter and
     * pays 99. Best is 40, then 99: 50 and 99/4. What never rises brings 60 at most, by 40 twice.
     */
    private static SaturdaySale rising() {
        SaturdaySale x = Sales.priced(99, 40);
        x.set(0, 12);
        x.set(1, 2);
        x.sort(4, 40, 30);
        x.sort(1, 99, 0);
        return x;
    }

    /** 'PLANS that never rise (numbers of PRICES that never become less)'. */
    private static void keptNeverRises() {
        SaturdaySale x = rising();
        DUE.is("best on day 0", x.best(0, 12), 1);
        DUE.is("best on day 1", x.best(1, 12), 0);
        DUE.is("kept on day 0", x.kept(0, 0), 1);
        DUE.is("kept on day 1", x.kept(0, 1), 1);
        DUE.fraction("kept brings", x.keeps(0, 0), x.keeps(0, 1), 60, 1);
    }

    /** 'that with the greatest BRINGS, the first by DAYS'. */
    private static void keptIsTheFirstByDays() {
        SaturdaySale x = Sales.priced(40, 20);
        x.set(1, 2);
        x.sort(2, 40, 0);
        x.sort(2, 20, 0);
        planIs("20 each way on each day", x, 0, 0, 0);
        x.change(0, 2, 1);
        planIs("20 each way on day 0 alone", x, 0, 0, 1);
        x.change(0, 0, 0);
        planIs("10 by 20 alone", x, 0, 1, 1);
        x.change(1, 0, 0);
        planIs("nobody", x, 0, 0, 0);
    }

    private static void planIs(String name, SaturdaySale x, int what, int... numbers) {
        for (int day = 0; day < numbers.length; day++) {
            DUE.is(name + ", day " + day, x.kept(what, day), numbers[day]);
        }
    }

    private static SaturdaySale eachDayLess(int days) {
        SaturdaySale x = Sales.priced(90, 60, 30);
        x.set(1, days);
        x.sort(4, 90, 30);
        return x;
    }

    /** 'those with two PRICES at most (one from DAY 0 on, another one from some DAY on)'. */
    private static void onceHasTwoPricesAtMost() {
        SaturdaySale x = eachDayLess(3);
        planIs("kept has three", x, 0, 0, 1, 2);
        planIs("once has two", x, 1, 0, 1, 1);
        DUE.is("once brings", x.keeps(1, 0), 150);
        x.set(1, 2);
        planIs("once on the last of two days", x, 1, 0, 1);
        x.set(1, 1);
        planIs("once on one day", x, 1, 0);
        SaturdaySale y = Sales.priced(90);
        y.sort(4, 90, 0);
        planIs("one price", y, 1, 0, 0, 0);
        y.price(10);
        planIs("one of two prices", y, 1, 0, 0, 0);
        // from the last day on, and from day 1 on
        y.set(1, 6);
        y.set(0, 12);
        y.change(0, 2, 1);
        planIs("from day 1 on", y, 1, 0, 1, 1, 1, 1, 1);
        SaturdaySale z = Sales.priced(85, 80);
        z.set(1, 6);
        z.set(0, 12);
        z.sort(4, 89, 1);
        planIs("from the last day on", z, 1, 0, 0, 0, 0, 0, 1);
    }

    /** 'likewise': of 0 1 1, 0 2 2 and 1 1 2, which bring 150 each, the first by days. */
    private static void onceIsTheFirstByDays() {
        SaturdaySale x = eachDayLess(3);
        planIs("first by days", x, 1, 0, 1, 1);
        x.change(0, 0, 0);
        planIs("nobody", x, 1, 0, 0, 0);
    }

    /** 'of all PLANS that never rise': with six days and five prices, the last price on each day, too. */
    private static void theLastOfAllPlans() {
        SaturdaySale x = Sales.priced(50, 40, 30, 20, 10);
        x.set(0, 12);
        x.set(1, 6);
        x.sort(4, 10, 0);
        for (int what = 0; what <= 2; what++) {
            planIs("kept " + what, x, what, 4, 4, 4, 4, 4, 4);
            DUE.is("keeps " + what, x.keeps(what, 0), 60);
        }
        x.change(0, 1, 50);
        for (int what = 0; what <= 2; what++) {
            planIs("the first, kept " + what, x, what, 0, 0, 0, 0, 0, 0);
            DUE.is("the first, keeps " + what, x.keeps(what, 0), 300);
        }
    }

    /** 'PROMISE costs: WORTH of the beginning less BRINGS of KEPT.' */
    private static void promiseCosts() {
        SaturdaySale x = rising();
        DUE.fraction("costs", x.keeps(3, 0), x.keeps(3, 1), 59, 4);
        x.set(1, 1);
        DUE.fraction("one day", x.keeps(3, 0), x.keeps(3, 1), 0, 1);
        x.set(1, 2);
        x.set(0, 0);
        DUE.fraction("no coats", x.keeps(3, 0), x.keeps(3, 1), 0, 1);
    }

    /** 'RATHER: the first DAY and number of coats (by DAYS, then the fewest) that can come by KEPT'. */
    private static void rather() {
        SaturdaySale x = rising();
        DUE.is("12 coats", x.rather(), 12);
        x.set(0, 3);
        DUE.is("3 coats", x.rather(), 3);
        x.set(0, 1);
        DUE.is("one coat: 99 twice is best", x.rather(), Sales.NONE);
        x.set(0, 0);
        DUE.is("no coats", x.rather(), Sales.NONE);
        x.set(0, 12);
        x.set(1, 1);
        DUE.is("one day", x.rather(), Sales.NONE);
    }

    /** 'a SORT may wait (not at first)'. */
    private static void nobodyWaitsAtFirst() {
        SaturdaySale x = eachDayLess(3);
        DUE.is("told", x.told(30), Sales.NONE);
        DUE.is("picks", x.picks(0, 0), Sales.NO);
        Sales.plan(x, 0, 1, 2);
        DUE.is("met", x.keeps(4, 0), 180);
    }

    /** 'with a cost (0 to 30) for each DAY': six days at 99, the last at 1. */
    private static void costOfWaitingIs0To30() {
        SaturdaySale x = Sales.priced(99, 1);
        x.set(1, 6);
        x.sort(4, 99, 0);
        Sales.plan(x, 0, 0, 0, 0, 0, 1);
        for (int cost : Sales.outside(-1, 30)) {
            DUE.is("cost " + cost, x.change(0, 3, cost), Sales.OUTSIDE);
        }
        DUE.is("cost 0", x.change(0, 3, 0), Sales.NONE);
        for (int day = 0; day <= 5; day++) {
            DUE.is("without cost, from " + day, x.picks(0, day), 5);
        }
        DUE.is("cost 30", x.change(0, 3, 30), 0);
        int[] picked = {0, 1, 5, 5, 5, 5};
        for (int day = 0; day <= 5; day++) {
            DUE.is("at a cost of 30, from " + day, x.picks(0, day), picked[day]);
        }
        DUE.is("waits no more", x.change(0, 3, -1), 30);
        DUE.is("picks no more", x.picks(0, 0), Sales.NO);
    }

    /** 'picks of this and all later DAYS': none ahead, none behind the last. */
    private static void picksThisOrALaterDay() {
        SaturdaySale x = Sales.priced(50, 10);
        x.sort(4, 60, 0);
        x.change(0, 3, 0);
        Sales.plan(x, 1, 0, 0, 1);
        DUE.is("from 0", x.picks(0, 0), 0);
        DUE.is("from 1, not day 0", x.picks(0, 1), 1);
        DUE.is("from 2, not day 3", x.picks(0, 2), 2);
        x.set(1, 4);
        DUE.is("from 1, day 3 is there", x.picks(0, 1), 3);
        DUE.is("from 3, the last", x.picks(0, 3), 3);
    }

    /** 'that on which worth less price less cost for DAYS waited is greatest'. */
    private static void picksTheGreatest() {
        SaturdaySale x = Sales.priced(60, 55, 50, 44);
        x.set(1, 4);
        x.sort(4, 70, 0);
        x.change(0, 3, 5);
        Sales.plan(x, 0, 1, 2, 3);
        DUE.is("10, 10, 10, 11", x.picks(0, 0), 3);
        x.change(0, 2, 1);
        DUE.is("10, 9, 8, 8", x.picks(0, 0), 0);
        x.change(0, 3, 4);
        DUE.is("10, 10, 10, 11 by the fall", x.picks(0, 0), 3);
        x.change(0, 3, 3);
        DUE.is("from 2: 18 and 20", x.picks(0, 2), 3);
    }

    /** 'the first such'. */
    private static void picksTheFirstSuch() {
        SaturdaySale x = Sales.priced(60, 55, 50);
        x.sort(4, 70, 0);
        x.change(0, 3, 5);
        Sales.plan(x, 0, 1, 2);
        DUE.is("like ones from 0", x.picks(0, 0), 0);
        DUE.is("like ones from 1", x.picks(0, 1), 1);
        x.change(0, 3, 4);
        DUE.is("the last is greatest", x.picks(0, 0), 2);
        Sales.plan(x, 0, 2, 2);
        x.change(0, 3, 0);
        DUE.is("the first of the greatest", x.picks(0, 0), 1);
    }

    /** 'if it is not below 0; else goes'. */
    private static void goesIfBelow0() {
        SaturdaySale x = Sales.priced(60, 50);
        x.set(1, 2);
        x.sort(4, 60, 5);
        x.change(0, 3, 5);
        Sales.plan(x, 0, 1);
        DUE.is("0 and 0", x.picks(0, 0), 0);
        x.change(0, 1, 59);
        DUE.is("-1 and -1", x.picks(0, 0), Sales.NONE);
        DUE.is("4 on day 1", x.picks(0, 1), 1);
        x.change(0, 3, 4);
        DUE.is("-1 and 0", x.picks(0, 0), 1);
        x.change(0, 1, 55);
        DUE.is("0 on day 1", x.picks(0, 1), 1);
        x.change(0, 1, 54);
        DUE.is("-1 on day 1", x.picks(0, 1), Sales.NONE);
        DUE.fraction("met, all go", x.keeps(4, 0), x.keeps(4, 1), 0, 1);
    }

    /** '(Who picks a DAY comes on it, and BUYS, if a coat is left.)' */
    private static void whoPicksADayBuysIfACoatIsLeft() {
        SaturdaySale x = Sales.priced(60, 10);
        x.sort(4, 60, 0);
        x.change(0, 3, 0);
        Sales.plan(x, 0, 0, 1);
        x.set(2, 1);
        int[] met = {0, 10, 20, 30, 31};
        for (int coats = 0; coats <= 4; coats++) {
            x.set(0, coats);
            DUE.is(coats + " coats, all come on the last day", x.keeps(4, 0), met[coats]);
        }
        x.sort(4, 60, 0);
        DUE.is("one more buys on each day", x.keeps(4, 0), 60 + 60 + 10 + 10);
    }

    /** 'MET BEST: of PLANS that never rise'. */
    private static void metBestNeverRises() {
        SaturdaySale x = rising();
        planIs("nobody waits", x, 2, 1, 1);
        x.change(0, 3, 0);
        x.change(1, 3, 0);
        planIs("all may wait", x, 2, 1, 1);
        DUE.is("met best", x.keeps(2, 0), 60);
    }

    /** 'that with the greatest MET, the first by DAYS'. */
    private static void metBestIsTheFirstByDays() {
        SaturdaySale x = eachDayLess(3);
        x.change(0, 2, 29);
        x.change(0, 3, 0);
        planIs("0 1 1, 1 1 1 and 1 1 2 meet 120", x, 2, 0, 1, 1);
        x.set(1, 1);
        planIs("one day", x, 2, 0);
        x.change(0, 0, 0);
        x.set(1, 6);
        planIs("nobody", x, 2, 0, 0, 0, 0, 0, 0);
    }

    // ---- 4

    /** 'of numbers of coats 0 to 12 that n': each one can be. */
    private static void madeIs0To12() {
        SaturdaySale x = Sales.priced(50);
        x.set(1, 6);
        x.sort(4, 50, 0);
        x.sort(4, 50, 0);
        x.sort(0, 50, 0);
        for (int days = 1; days <= 6; days++) {
            x.set(1, days);
            DUE.is(days + " days", x.made(49), 2 * days);
            DUE.is(days + " days, too dear", x.made(50), 0);
        }
        x.change(2, 0, 4);
        DUE.is("18 would buy", x.made(0), 12);
        x.set(1, 3);
        x.set(0, 0);
        DUE.is("9 would buy, whatever COATS are", x.made(0), 9);
    }

    /** 'is greatest, the least such'. */
    private static void madeIsTheLeastSuch() {
        SaturdaySale x = Sales.priced(50, 20);
        x.set(1, 1);
        x.sort(4, 50, 0);
        DUE.is("more bring no more", x.made(0), 1);
        DUE.is("one brings what it costs", x.made(50), 0);
        x.set(2, 20);
        DUE.is("a second brings what it costs", x.made(20), 1);
        DUE.is("a twelfth brings 1 more", x.made(19), 12);
    }

    /** 'a text of up to 40 signs'. */
    private static void upTo40Signs() {
        SaturdaySale x = Sales.priced(9, 8, 7, 6, 5);
        Sales.say(x, "l<10:0;l<10:0;l<10:0;l<1:0;l<1:0;l<1:0;");
        DUE.is("39 signs", x.told(5), 39);
        DUE.is("sign 40", x.say('3'), 40);
        DUE.is("sign 41", x.say('3'), Sales.FULL);
        DUE.is("no fault", x.fault(), Sales.NONE);
        DUE.is("six clauses", x.rule(), 6);
        DUE.is("the last one", x.asks(0, 10), 3);
        DUE.is("signs again", x.say('3'), 1);
    }

    /** '(codes 33 to 126)'. */
    private static void signsAre33To126() {
        SaturdaySale x = new SaturdaySale();
        for (int sign : Sales.outside(33, 126)) {
            DUE.is("sign " + sign, x.say(sign), Sales.OUTSIDE);
        }
        for (int sign = 33; sign <= 126; sign++) {
            DUE.is("sign " + sign, x.say(sign), 1);
            x.wipe();
        }
    }

    private static int faultOf(String text) {
        SaturdaySale x = new SaturdaySale();
        Sales.say(x, text);
        return x.fault();
    }

    /** Of all signs that can be said those that may follow a text, by whether the fault is at its end. */
    private static void mayFollow(String text, String those) {
        for (char sign = 33; sign <= 126; sign++) {
            int fault = faultOf(text + sign);
            DUE.is(text + " and " + sign + ", a fault there", fault == text.length() ? 1 : 0, those.indexOf(sign) < 0 ? 1 : 0);
        }
    }

    /** 'each a fact (l coats left, d the DAY), a <, > or ='. */
    private static void factsAndCompares() {
        mayFollow("", "ld01234");
        mayFollow("l", "<>=");
        mayFollow("d", "<>=");
        mayFollow("l<1:0;", "ld01234");
    }

    /** 'a digit or two, a :'. */
    private static void aDigitOrTwo() {
        mayFollow("l<", "0123456789");
        mayFollow("d=", "0123456789");
        mayFollow("l>9", ":0123456789");
        mayFollow("l>99", ":");
        int[] coats = {0, 9, 10, 12};
        String[] texts = {"l=0", "l=9", "l=10", "l=12", "l=00", "l=09"};
        int[] bounds = {0, 9, 10, 12, 0, 9};
        for (int i = 0; i < texts.length; i++) {
            SaturdaySale x = Sales.ruled(texts[i] + ":1;0", 20, 10);
            for (int n : coats) {
                DUE.is(texts[i] + " with " + n, x.asks(0, n), n == bounds[i] ? 1 : 0);
            }
        }
        DUE.is("l<0 is never so", Sales.ruled("l<0:1;0", 20, 10).asks(0, 0), 0);
        DUE.is("l>99 is never so", Sales.ruled("l>99:1;0", 20, 10).asks(0, 12), 0);
        DUE.is("l<99 is always so", Sales.ruled("l<99:1;0", 20, 10).asks(0, 12), 1);
        DUE.is("l>12 with 12", Sales.ruled("l>12:1;0", 20, 10).asks(0, 12), 0);
        DUE.is("l>11 with 12", Sales.ruled("l>11:1;0", 20, 10).asks(0, 12), 1);
        DUE.is("l<12 with 12", Sales.ruled("l<12:1;0", 20, 10).asks(0, 12), 0);
        DUE.is("d<5 on 5", Sales.ruled("d<5:1;0", 20, 10).asks(5, 0), 0);
        DUE.is("d<6 on 5", Sales.ruled("d<6:1;0", 20, 10).asks(5, 0), 1);
        DUE.is("d>5 on 5", Sales.ruled("d>5:1;0", 20, 10).asks(5, 12), 0);
        DUE.is("d>4 on 5", Sales.ruled("d>4:1;0", 20, 10).asks(5, 0), 1);
    }

    /** 'a digit (the number of a PRICE, 0 to 4), a ; and then a digit 0 to 4'. */
    private static void theNumberIs0To4() {
        mayFollow("l<1:", "01234");
        mayFollow("l<12:", "01234");
        mayFollow("l<1:0", ";");
        mayFollow("0", "");
        mayFollow("l<1:0;4", "");
        for (int number = 0; number <= 4; number++) {
            SaturdaySale x = Sales.ruled("l=0:" + number + ";" + (4 - number), 50, 40, 30, 20, 10);
            DUE.is("in a clause " + number, x.asks(0, 0), number);
            DUE.is("at last " + (4 - number), x.asks(0, 1), 4 - number);
        }
    }

    /** 'of the first CLAUSE that is so its PRICE'. */
    private static void theFirstClauseThatIsSo() {
        SaturdaySale x = Sales.ruled("l<1:4;l<2:3;l<3:2;l<4:1;l<5:0;l<6:4;2", 50, 40, 30, 20, 10);
        int[] due = {4, 3, 2, 1, 0, 4, 2};
        for (int n = 0; n < due.length; n++) {
            DUE.is("with " + n, x.asks(0, n), due[n]);
        }
    }

    /** 'else the last one': also if there is no clause. */
    private static void elseTheLastOne() {
        DUE.is("no clause", Sales.ruled("2", 50, 40, 30).asks(5, 12), 2);
        DUE.is("a clause that is not so", Sales.ruled("d=1:0;2", 50, 40, 30).asks(0, 1), 2);
    }

    /** 'a number of a PRICE that there is not means the last PRICE'. */
    private static void aPriceThatThereIsNot() {
        int[] all = {50, 40, 30, 20, 10};
        SaturdaySale x = new SaturdaySale();
        Sales.say(x, "l=0:4;3");
        x.rule();
        for (int last = 0; last < all.length; last++) {
            x.price(all[last]);
            DUE.is("4 of " + (last + 1), x.asks(0, 0), Math.min(4, last));
            DUE.is("3 of " + (last + 1), x.asks(0, 1), Math.min(3, last));
        }
    }

    /** 'THE FAULT: the place (from 0 on) of the first sign that can not stand there'. */
    private static void faultOfTheFirstSign() {
        DUE.is("at the first place", faultOf("x0"), 0);
        DUE.is("the first of two", faultOf("lx<x"), 1);
        DUE.is("behind the last one", faultOf("0x"), 1);
        String full = "l<10:0;l<10:0;l<10:0;l<1:0;l<1:0;l<1:0;";
        DUE.is("at place 39", faultOf(full + "x"), 39);
        DUE.is("at place 0 of 40", faultOf("!" + full), 0);
        DUE.is("no fault", faultOf(full + "0"), Sales.NONE);
    }

    /** 'the number of signs, if more must come'. */
    private static void faultIfMoreMustCome() {
        String full = "l<10:0;l<10:0;l<10:0;l<1:0;l<1:0;l<1:0;0";
        for (int count = 0; count < full.length(); count++) {
            DUE.is(count + " signs", faultOf(full.substring(0, count)), count);
        }
        DUE.is("40 signs", faultOf("l<10:0;l<10:0;l<10:0;l<10:0;l<10:0;l<1:0"), 40);
    }

    /** 'BOY: the mean by the RULE, nobody waiting.' */
    private static void boyWithNobodyWaiting() {
        SaturdaySale x = Sales.ruled("d<2:0;1", 60, 10);
        x.sort(4, 60, 0);
        DUE.is("nobody waits", x.boy(0), 130);
        x.change(0, 3, 0);
        DUE.is("who waits does not here", x.boy(0), 130);
        x.set(0, 0);
        DUE.fraction("no coats", x.boy(0), x.boy(1), 0, 1);
        x.set(0, 12);
        x.set(2, 99);
        DUE.is("nine are left", x.boy(0), 130 + 9 * 99);
    }

    /** 'WORST: of numbers of coats 1 to 12', whatever COATS are. */
    private static void worstIs1To12() {
        for (int n = 1; n <= 12; n++) {
            SaturdaySale x = Sales.ruled("l=" + n + ":1;0", 20, 10);
            x.set(1, 1);
            x.sort(4, 20, 0);
            x.set(0, 12 - n);
            DUE.is("less with " + n, x.worst(), n);
        }
    }

    /** 'is greatest, the least such'. */
    private static void worstIsTheLeastSuch() {
        SaturdaySale x = Sales.ruled("0", 20);
        DUE.is("it costs nothing", x.worst(), 1);
        x.price(10);
        x.set(1, 1);
        x.sort(4, 20, 0);
        Sales.say(x, "l>6:1;0");
        x.rule();
        DUE.is("like ones from 7 on", x.worst(), 7);
        Sales.say(x, "l<12:1;0");
        x.rule();
        DUE.is("like ones up to 11", x.worst(), 1);
    }

    /** One day, one coat, a sure buyer at 20; 30 is best if its chance is 3 quarters or more. */
    private static SaturdaySale edged(int chance) {
        SaturdaySale x = Sales.priced(30, 20);
        x.set(0, 1);
        x.set(1, 1);
        x.sort(4, 20, 0);
        x.sort(chance, 30, 0);
        return x;
    }

    /** 'EDGE of a SORT: the least change of its CHANCE (up or down ..)', from 0 and from 4, too. */
    private static void edgeUpOrDown() {
        int[] due = {3, 3, 3, 2, 2};
        for (int chance = 0; chance <= 4; chance++) {
            DUE.is("from " + chance, edged(chance).edge(1), due[chance]);
        }
        SaturdaySale x = edged(0);
        DUE.is("down to 0", x.edge(0), 0);
        x.change(0, 0, 0);
        DUE.is("up from 0", x.edge(0), 1);
        x.change(1, 0, 4);
        DUE.is("no change does", x.edge(0), Sales.NONE);
    }

    /** '(.. of like ones down)': 95 is best with 1 quarter, 40 with 2, 65 with 3. */
    private static void edgeOfLikeOnesDown() {
        SaturdaySale x = Sales.priced(95, 65, 40);
        x.set(1, 1);
        x.sort(4, 95, 0);
        x.sort(2, 65, 0);
        x.sort(4, 40, 0);
        DUE.is("1 and 3 would do", x.edge(1), 1);
    }

    /** 'the least change': from 1 quarter of sort 1 both 0 and 3 are looked at by how far they are. */
    private static void edgeIsTheLeastChange() {
        SaturdaySale x = Sales.priced(95, 65, 40);
        x.set(1, 1);
        x.sort(4, 95, 0);
        x.sort(3, 65, 0);
        x.sort(4, 40, 0);
        DUE.is("2, not 4 (like 3) and not 1", x.edge(1), 2);
        x.change(1, 0, 0);
        DUE.is("up by 2", x.edge(1), 2);
        x.change(1, 0, 1);
        DUE.is("up by 1", x.edge(1), 2);
        x.change(1, 0, 4);
        DUE.is("down by 2", x.edge(1), 2);
    }

    /**
     * A CHANCE is 0 to 4: one of -1 would make 20 best in the first sale, one of 5 would make 90 best
     * in the second (90 times it, against 49 and 49 times it). In the third 4 alone does.
     */
    private static void edgeIsNoChanceBelow0OrAbove4() {
        SaturdaySale x = Sales.priced(30, 20);
        x.set(1, 1);
        x.sort(0, 30, 0);
        DUE.is("not below 0", x.edge(0), Sales.NONE);
        SaturdaySale y = Sales.priced(90, 49);
        y.set(1, 1);
        y.sort(4, 49, 0);
        y.sort(4, 90, 0);
        DUE.is("49 is best", y.best(0, 4), 1);
        DUE.is("not above 4", y.edge(1), Sales.NONE);
        SaturdaySale z = Sales.priced(30, 29);
        z.set(0, 1);
        z.set(1, 1);
        z.sort(4, 29, 0);
        z.sort(0, 30, 0);
        DUE.is("4 of 4, from 0", z.edge(1), 4);
        z.change(1, 0, 3);
        DUE.is("4 of 4, from 3", z.edge(1), 4);
    }
}
