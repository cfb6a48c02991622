/** Promises 13 to 16: kept, keeps, rather, picks. */
public final class PromiseTest {
    private static final Due DUE = new Due();
    private static final long LOST_OUTSIDE = SaturdaySale.LOST - 2;
    private static final long LOST_STATE = SaturdaySale.LOST - 3;

    public static void main(String[] args) {
        refusals();
        fallingWorth();
        promiseThatCosts();
        nobody();
        picks();
        picksTheFirstOfLikeDays();
        met();
        metBest();
        metIsAsBringsIfNobodyWaits();
        waitersDoNotChangeBrings();
        longSale();
        changesAreSeen();
        DUE.end();
    }

    private static void refusals() {
        SaturdaySale x = new SaturdaySale();
        DUE.is("kept, wrong and no prices", x.kept(3, 0), -2);
        DUE.is("kept, no prices", x.kept(2, 2), -3);
        DUE.is("keeps, wrong and no prices", x.keeps(5, 0), LOST_OUTSIDE);
        DUE.is("keeps, part 2 and no prices", x.keeps(0, 2), LOST_OUTSIDE);
        DUE.is("keeps, no prices", x.keeps(4, 1), LOST_STATE);
        DUE.is("rather, no prices", x.rather(), -3);
        x.sort(4, 50, 0);
        DUE.is("picks, wrong day, no prices", x.picks(0, 3), -2);
        DUE.is("picks, no prices", x.picks(0, 0), -3);
        DUE.is("picks, no sort", x.picks(1, 9), -1);
        DUE.is("picks, sort -1", x.picks(-1, 0), -1);
        x.price(50);
        DUE.is("picks, does not wait", x.picks(0, 0), -5);
        DUE.is("picks, does not wait, wrong day", x.picks(0, 3), -2);
        DUE.is("picks, day -1", x.picks(0, -1), -2);
        DUE.is("kept -1", x.kept(-1, 0), -2);
        DUE.is("kept day -1", x.kept(0, -1), -2);
        DUE.is("kept day 3", x.kept(0, 3), -2);
        DUE.is("keeps -1", x.keeps(-1, 0), LOST_OUTSIDE);
        DUE.is("keeps part -1", x.keeps(0, -1), LOST_OUTSIDE);
        x.set(1, 4);
        DUE.is("kept day 3 of 4", x.kept(0, 3), 0);
        DUE.is("picks day 3 of 4", x.picks(0, 3), -5);
    }

    private static SaturdaySale threeSureBuyers(int worth, int fall) {
        SaturdaySale x = new SaturdaySale();
        x.set(0, 3);
        x.price(90);
        x.price(60);
        x.price(30);
        x.sort(4, worth, fall);
        return x;
    }

    private static void planIs(String name, SaturdaySale x, int what, int... numbers) {
        for (int day = 0; day < numbers.length; day++) {
            DUE.is(name + " on " + day, x.kept(what, day), numbers[day]);
        }
    }

    /** Of the plans with two prices 0 1 1, 0 2 2 and 1 1 2 bring 150 each. */
    private static void fallingWorth() {
        SaturdaySale x = threeSureBuyers(90, 30);
        planIs("kept", x, 0, 0, 1, 2);
        DUE.fraction("kept", x.keeps(0, 0), x.keeps(0, 1), 180, 1);
        planIs("once", x, 1, 0, 1, 1);
        DUE.fraction("once", x.keeps(1, 0), x.keeps(1, 1), 150, 1);
        DUE.fraction("costs", x.keeps(3, 0), x.keeps(3, 1), 0, 1);
        DUE.is("rather", x.rather(), -6);
        x.set(1, 2);
        planIs("kept for two days", x, 0, 0, 1);
        planIs("once for two days", x, 1, 0, 1);
        x.set(1, 1);
        planIs("kept for one day", x, 0, 0);
        planIs("once for one day", x, 1, 0);
        x.set(0, 0);
        x.set(1, 3);
        planIs("kept without coats", x, 0, 0, 0, 0);
        DUE.fraction("kept without coats", x.keeps(0, 0), x.keeps(0, 1), 0, 1);
    }

    /**
     * Two days, two coats. Best is 40, then 60 whatever is left: 545/16. A promise that never rises
     * brings 2135/64 at most, by 40, then 30.
     */
    private static void promiseThatCosts() {
        SaturdaySale x = new SaturdaySale();
        x.set(0, 2);
        x.set(1, 2);
        x.price(60);
        x.price(40);
        x.price(30);
        x.sort(1, 90, 10);
        x.sort(1, 40, 10);
        DUE.is("rather, asked first", x.rather(), 2);
        DUE.is("best 0 2", x.best(0, 2), 1);
        DUE.is("best 1 1", x.best(1, 1), 0);
        DUE.is("best 1 2", x.best(1, 2), 0);
        DUE.fraction("state", x.state(0, 2, 0), x.state(0, 2, 1), 545, 16);
        planIs("kept", x, 0, 1, 2);
        planIs("once", x, 1, 1, 2);
        DUE.fraction("kept", x.keeps(0, 0), x.keeps(0, 1), 2135, 64);
        DUE.fraction("once", x.keeps(1, 0), x.keeps(1, 1), 2135, 64);
        DUE.fraction("costs", x.keeps(3, 0), x.keeps(3, 1), 45, 64);
        DUE.is("rather", x.rather(), 2);
        x.set(1, 1);
        DUE.is("rather with one day", x.rather(), -6);
    }

    private static void nobody() {
        SaturdaySale x = new SaturdaySale();
        x.price(9);
        x.price(8);
        x.set(2, 3);
        for (int what = 0; what <= 2; what++) {
            planIs("nobody " + what, x, what, 0, 0, 0);
            DUE.fraction("nobody " + what, x.keeps(what, 0), x.keeps(what, 1), 12, 1);
        }
        DUE.fraction("nobody 3", x.keeps(3, 0), x.keeps(3, 1), 0, 1);
        DUE.fraction("nobody 4", x.keeps(4, 0), x.keeps(4, 1), 12, 1);
        DUE.is("rather", x.rather(), -6);
    }

    private static void tell(SaturdaySale x, int... numbers) {
        for (int day = 0; day < numbers.length; day++) {
            x.plan(day, numbers[day]);
        }
    }

    /** It is worth 90, 61, 32 by day: by 0 1 2 a gain of 0, 1, 2 ahead of the cost to wait. */
    private static void picks() {
        SaturdaySale x = threeSureBuyers(90, 29);
        tell(x, 0, 1, 2);
        x.change(0, 3, 0);
        for (int day = 0; day < 3; day++) {
            DUE.is("without cost, from " + day, x.picks(0, day), 2);
        }
        x.change(0, 3, 2);
        for (int day = 0; day < 3; day++) {
            DUE.is("at a cost of 2, from " + day, x.picks(0, day), day);
        }
        x.change(0, 1, 89);
        DUE.is("worth 89, 60, 31, at a cost of 2", x.picks(0, 0), -6);
        DUE.is("a gain of 0 is not below 0", x.picks(0, 1), 1);
        x.change(0, 3, 0);
        DUE.is("worth 89, 60, 31, without cost", x.picks(0, 0), 2);
        x.set(1, 2);
        DUE.is("only two days", x.picks(0, 0), 1);
        x.set(1, 1);
        DUE.is("only one day", x.picks(0, 0), -6);
    }

    private static void picksTheFirstOfLikeDays() {
        SaturdaySale x = threeSureBuyers(90, 29);
        tell(x, 0, 1, 2);
        x.change(0, 3, 1);
        for (int day = 0; day < 3; day++) {
            DUE.is("at a cost of 1, from " + day, x.picks(0, day), day);
        }
        tell(x, 2, 2, 2);
        x.change(0, 2, 0);
        x.change(0, 3, 0);
        DUE.is("like days", x.picks(0, 0), 0);
        tell(x, 2, 1, 0);
        DUE.is("from day 1, 60 ahead of 90", x.picks(0, 1), 1);
    }

    private static void met() {
        SaturdaySale x = threeSureBuyers(90, 29);
        tell(x, 0, 1, 2);
        DUE.fraction("nobody waits", x.keeps(4, 0), x.keeps(4, 1), 180, 1);
        x.change(0, 3, 0);
        DUE.fraction("all wait for day 2", x.keeps(4, 0), x.keeps(4, 1), 90, 1);
        x.set(0, 2);
        DUE.fraction("all wait, two coats", x.keeps(4, 0), x.keeps(4, 1), 60, 1);
        x.set(0, 4);
        x.set(2, 7);
        DUE.fraction("all wait, one is left", x.keeps(4, 0), x.keeps(4, 1), 97, 1);
        x.set(2, 0);
        x.change(0, 0, 1);
        x.sort(4, 60, 0);
        // 60 on day 1; on day 2 the sure buyer and up to three who waited come for three coats
        DUE.fraction("one sort waits", x.keeps(4, 0), x.keeps(4, 1), 3585, 32);
    }

    /** Worth 90, 61, 32 by day, no cost to wait: 0 1 1, 1 1 1 and 1 1 2 bring 120 each. */
    private static void metBest() {
        SaturdaySale x = threeSureBuyers(90, 29);
        x.change(0, 3, 0);
        planIs("met best", x, 2, 0, 1, 1);
        DUE.fraction("met best", x.keeps(2, 0), x.keeps(2, 1), 120, 1);
        DUE.fraction("kept still", x.keeps(0, 0), x.keeps(0, 1), 180, 1);
        x.change(0, 3, 1);
        planIs("met best at a cost of 1", x, 2, 0, 1, 2);
        DUE.fraction("met best at a cost of 1", x.keeps(2, 0), x.keeps(2, 1), 180, 1);
    }

    private static void metIsAsBringsIfNobodyWaits() {
        SaturdaySale x = new SaturdaySale();
        x.price(80);
        x.price(50);
        x.price(30);
        x.sort(3, 80, 20);
        x.sort(2, 55, 5);
        tell(x, 1, 0, 2);
        DUE.is("upper", x.keeps(4, 0), x.brings(0));
        DUE.is("lower", x.keeps(4, 1), x.brings(1));
        DUE.is("met best's upper", x.keeps(2, 0), x.keeps(0, 0));
        DUE.is("met best's lower", x.keeps(2, 1), x.keeps(0, 1));
        for (int day = 0; day < 3; day++) {
            DUE.is("met best on " + day, x.kept(2, day), x.kept(0, day));
        }
    }

    private static void waitersDoNotChangeBrings() {
        SaturdaySale x = threeSureBuyers(90, 29);
        tell(x, 0, 1, 2);
        x.change(0, 3, 0);
        DUE.fraction("brings", x.brings(0), x.brings(1), 180, 1);
        DUE.fraction("state", x.state(0, 3, 0), x.state(0, 3, 1), 180, 1);
        DUE.fraction("left", x.left(0, 0), x.left(0, 1), 1, 1);
        DUE.fraction("costs", x.keeps(3, 0), x.keeps(3, 1), 0, 1);
    }

    /** Six days, three sorts that all wait for the last day: 18 come, 12 coats. */
    private static void longSale() {
        SaturdaySale x = new SaturdaySale();
        x.set(0, 12);
        x.set(1, 6);
        for (int v = 50; v >= 10; v -= 10) {
            x.price(v);
        }
        for (int i = 0; i < 3; i++) {
            x.sort(4, 99, 0);
            x.change(i, 3, 0);
        }
        tell(x, 0, 0, 0, 0, 0, 4);
        DUE.fraction("all wait", x.keeps(4, 0), x.keeps(4, 1), 120, 1);
        DUE.fraction("nobody waits", x.brings(0), x.brings(1), 600, 1);
        planIs("met best", x, 2, 0, 0, 0, 0, 0, 0);
        planIs("kept", x, 0, 0, 0, 0, 0, 0, 0);
        for (int i = 0; i < 3; i++) {
            x.change(i, 0, 1);
        }
        // the coat is left if none of 18 comes, each with a quarter
        x.set(0, 1);
        long none = 1;
        for (int i = 0; i < 18; i++) {
            none *= 3;
        }
        long all = 1L << 36;
        DUE.fraction("one coat", x.keeps(4, 0), x.keeps(4, 1), 10 * (all - none) / 2, all / 2);
    }

    private static void changesAreSeen() {
        SaturdaySale x = threeSureBuyers(90, 30);
        DUE.is("kept", x.keeps(0, 0), 180);
        DUE.is("met best", x.keeps(2, 0), 180);
        x.set(0, 2);
        DUE.is("kept of 2", x.keeps(0, 0), 150);
        DUE.is("once of 2", x.keeps(1, 0), 150);
        DUE.is("met best of 2", x.keeps(2, 0), 150);
        x.set(2, 89);
        DUE.is("kept with a rest", x.keeps(0, 0), 179);
        x.set(2, 0);
        x.price(29);
        x.change(0, 1, 89);
        DUE.is("kept of 89, 59, 29", x.keeps(0, 0), 60 + 30);
        DUE.is("once of 89, 59, 29", x.keeps(1, 0), 60 + 30);
        DUE.is("met best of 89, 59, 29", x.keeps(2, 0), 60 + 30);
    }
}
