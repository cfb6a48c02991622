import java.math.BigInteger;
import java.util.List;
import java.util.function.Consumer;
import java.util.function.ToLongFunction;

/** The head of 'Terms': the order of refusals, that they change nothing, and how fractions are told. */
public final class TermsHeadTest {
    private static final Due DUE = new Due();

    public static void main(String[] args) {
        unknownAheadOfOutside();
        unknownAheadOfState();
        unknownAheadOfNo();
        outsideAheadOfState();
        outsideAheadOfFull();
        outsideAheadOfNo();
        stateAheadOfNo();
        refusedCallsOfTheUsualSaleChangeNothing();
        refusedCallsOfTheFullSaleChangeNothing();
        refusedCallsOfANewObjectChangeNothing();
        upperIsPart0AndLowerIsPart1();
        lowestTerms();
        nothingIs0By1();
        refusedFractionsAreLostAndTheRefusal();
        theLastOf512Calls();
        DUE.end();
    }

    private static void unknownAheadOfOutside() {
        SaturdaySale x = Sales.priced(50);
        DUE.is("change of no sort, wrong what", x.change(0, 4, 0), Sales.UNKNOWN);
        DUE.is("change of no sort, wrong value", x.change(0, 0, 5), Sales.UNKNOWN);
        DUE.is("worth to no sort, wrong day", x.worth(0, 6), Sales.UNKNOWN);
        DUE.is("plan of no price, wrong day", x.plan(6, 1), Sales.UNKNOWN);
        DUE.is("picks of no sort, wrong day", x.picks(0, 3), Sales.UNKNOWN);
    }

    private static void unknownAheadOfState() {
        SaturdaySale x = new SaturdaySale();
        DUE.is("picks of no sort, no prices", x.picks(0, 0), Sales.UNKNOWN);
        DUE.is("edge of no sort, no prices", x.edge(0), Sales.UNKNOWN);
        x.price(5);
        x.set(0, 0);
        DUE.is("edge of no sort, no coats", x.edge(0), Sales.UNKNOWN);
    }

    private static void unknownAheadOfNo() {
        SaturdaySale x = Sales.priced(50);
        x.sort(4, 50, 0);
        DUE.is("picks of no sort", x.picks(1, 0), Sales.UNKNOWN);
        DUE.is("picks of a sort that does not wait", x.picks(0, 0), Sales.NO);
    }

    private static void outsideAheadOfState() {
        SaturdaySale x = new SaturdaySale();
        x.sort(4, 50, 0);
        DUE.is("brings", x.brings(2), Sales.LOST_OUTSIDE);
        DUE.is("left, n", x.left(5, 0), Sales.LOST_OUTSIDE);
        DUE.is("left, part", x.left(0, 2), Sales.LOST_OUTSIDE);
        DUE.is("best, day", x.best(3, 1), Sales.OUTSIDE);
        DUE.is("best, n", x.best(0, 0), Sales.OUTSIDE);
        DUE.is("state, day", x.state(4, 0, 0), Sales.LOST_OUTSIDE);
        DUE.is("state, n", x.state(0, 5, 0), Sales.LOST_OUTSIDE);
        DUE.is("state, part", x.state(0, 0, 2), Sales.LOST_OUTSIDE);
        DUE.is("kept, what", x.kept(3, 0), Sales.OUTSIDE);
        DUE.is("kept, day", x.kept(0, 3), Sales.OUTSIDE);
        DUE.is("keeps, what", x.keeps(5, 0), Sales.LOST_OUTSIDE);
        DUE.is("keeps, part", x.keeps(0, 2), Sales.LOST_OUTSIDE);
        DUE.is("picks, day", x.picks(0, 3), Sales.OUTSIDE);
        DUE.is("made", x.made(100), Sales.OUTSIDE);
        DUE.is("asks, day", x.asks(6, 0), Sales.OUTSIDE);
        DUE.is("asks, n", x.asks(0, 13), Sales.OUTSIDE);
        DUE.is("boy", x.boy(2), Sales.LOST_OUTSIDE);
        x.price(50);
        DUE.is("asks with prices and no rule, day", x.asks(6, 0), Sales.OUTSIDE);
        DUE.is("asks with prices and no rule, n", x.asks(0, 13), Sales.OUTSIDE);
        DUE.is("boy with prices and no rule", x.boy(2), Sales.LOST_OUTSIDE);
    }

    private static void outsideAheadOfFull() {
        SaturdaySale x = Sales.full();
        DUE.is("a sixth price of 0", x.price(0), Sales.OUTSIDE);
        DUE.is("a sixth price that is not less", x.price(20), Sales.OUTSIDE);
        DUE.is("a sixth price", x.price(19), Sales.FULL);
        DUE.is("a fourth sort, chance", x.sort(5, 0, 0), Sales.OUTSIDE);
        DUE.is("a fourth sort, worth", x.sort(0, 100, 0), Sales.OUTSIDE);
        DUE.is("a fourth sort, fall", x.sort(0, 0, 31), Sales.OUTSIDE);
        DUE.is("a fourth sort", x.sort(0, 0, 0), Sales.FULL);
        DUE.is("sign 41, too small", x.say(32), Sales.OUTSIDE);
        DUE.is("sign 41, too large", x.say(127), Sales.OUTSIDE);
        DUE.is("sign 41", x.say('0'), Sales.FULL);
    }

    private static void outsideAheadOfNo() {
        SaturdaySale x = Sales.priced(50);
        x.sort(4, 50, 0);
        DUE.is("picks, wrong day, does not wait", x.picks(0, 3), Sales.OUTSIDE);
    }

    private static void stateAheadOfNo() {
        SaturdaySale x = new SaturdaySale();
        x.sort(4, 50, 0);
        DUE.is("picks, no prices, does not wait", x.picks(0, 0), Sales.STATE);
        x.price(50);
        DUE.is("picks, does not wait", x.picks(0, 0), Sales.NO);
    }

    /** The object on which the call was made must answer all as one on which it was not made. */
    private static void changesNothing(String call, SaturdaySale x, List<Long> due, ToLongFunction<SaturdaySale> refused,
            long refusal) {
        DUE.is(call, refused.applyAsLong(x), refusal);
        DUE.is(call + " is seen in what is answered later", Sales.answers(x).equals(due) ? 0 : 1, 0);
    }

    private static void refusedCallsOfTheUsualSaleChangeNothing() {
        List<Long> due = Sales.answers(Sales.usual());
        for (int v : Sales.outside(0, 12)) {
            changesNothing("set coats " + v, Sales.usual(), due, x -> x.set(0, v), Sales.OUTSIDE);
        }
        for (int v : Sales.outside(1, 6)) {
            changesNothing("set days " + v, Sales.usual(), due, x -> x.set(1, v), Sales.OUTSIDE);
        }
        for (int v : Sales.outside(0, 99)) {
            changesNothing("set rest " + v, Sales.usual(), due, x -> x.set(2, v), Sales.OUTSIDE);
            changesNothing("change worth " + v, Sales.usual(), due, x -> x.change(0, 1, v), Sales.OUTSIDE);
            changesNothing("sort of worth " + v, Sales.usual(), due, x -> x.sort(1, v, 1), Sales.OUTSIDE);
            changesNothing("price " + v, Sales.usual(), due, x -> x.price(v), Sales.OUTSIDE);
        }
        for (int v : Sales.outside(0, 2)) {
            changesNothing("set " + v, Sales.usual(), due, x -> x.set(v, 1), Sales.OUTSIDE);
        }
        changesNothing("price 30 behind 30", Sales.usual(), due, x -> x.price(30), Sales.OUTSIDE);
        for (int v : Sales.outside(0, 4)) {
            changesNothing("change chance " + v, Sales.usual(), due, x -> x.change(0, 0, v), Sales.OUTSIDE);
            changesNothing("sort of chance " + v, Sales.usual(), due, x -> x.sort(v, 1, 1), Sales.OUTSIDE);
        }
        for (int v : Sales.outside(0, 30)) {
            changesNothing("change fall " + v, Sales.usual(), due, x -> x.change(0, 2, v), Sales.OUTSIDE);
            changesNothing("sort of fall " + v, Sales.usual(), due, x -> x.sort(1, 1, v), Sales.OUTSIDE);
        }
        for (int v : Sales.outside(-1, 30)) {
            changesNothing("change cost " + v, Sales.usual(), due, x -> x.change(0, 3, v), Sales.OUTSIDE);
        }
        for (int v : Sales.outside(0, 3)) {
            changesNothing("change what " + v, Sales.usual(), due, x -> x.change(0, v, 1), Sales.OUTSIDE);
        }
        for (int v : Sales.outside(0, 1)) {
            changesNothing("change of sort " + v, Sales.usual(), due, x -> x.change(v, 0, 1), Sales.UNKNOWN);
        }
        for (int v : Sales.outside(0, 5)) {
            changesNothing("plan on " + v, Sales.usual(), due, x -> x.plan(v, 1), Sales.OUTSIDE);
        }
        for (int v : Sales.outside(0, 2)) {
            changesNothing("plan of " + v, Sales.usual(), due, x -> x.plan(1, v), Sales.UNKNOWN);
        }
        for (int v : Sales.outside(33, 126)) {
            changesNothing("say " + v, Sales.usual(), due, x -> x.say(v), Sales.OUTSIDE);
        }
        changesNothing("rule with a fault", Sales.usual(), due, SaturdaySale::rule, Sales.NO);
    }

    /** 512 calls are promised: the answers of the largest sale are some 300, and it is made by some 70. */
    private static void refusedCallsOfTheFullSaleChangeNothing() {
        List<Long> due = Sales.answers(Sales.full());
        changesNothing("a sixth price", Sales.full(), due, x -> x.price(19), Sales.FULL);
        changesNothing("a fourth sort", Sales.full(), due, x -> x.sort(4, 99, 0), Sales.FULL);
        changesNothing("sign 41", Sales.full(), due, x -> x.say('l'), Sales.FULL);
        changesNothing("rule of 40 signs with a fault", Sales.full(), due, SaturdaySale::rule, Sales.NO);
    }

    private static void refusedCallsOfANewObjectChangeNothing() {
        List<Long> due = Sales.answers(new SaturdaySale());
        changesNothing("plan of no price", new SaturdaySale(), due, x -> x.plan(0, 0), Sales.UNKNOWN);
        changesNothing("change of no sort", new SaturdaySale(), due, x -> x.change(0, 0, 0), Sales.UNKNOWN);
        changesNothing("rule of no signs", new SaturdaySale(), due, SaturdaySale::rule, Sales.NO);
        changesNothing("brings", new SaturdaySale(), due, x -> x.brings(0), Sales.LOST_STATE);
        changesNothing("made", new SaturdaySale(), due, x -> x.made(0), Sales.STATE);
        // a price that comes later must be seen by what was refused for want of one
        SaturdaySale x = new SaturdaySale();
        Sales.answers(x);
        x.price(9);
        x.set(2, 2);
        DUE.is("brings behind a refusal", x.brings(0), 8);
        DUE.is("state behind a refusal", x.state(0, 4, 0), 8);
        DUE.is("kept behind a refusal", x.keeps(0, 0), 8);
        DUE.is("met best behind a refusal", x.keeps(2, 0), 8);
        DUE.is("made behind a refusal", x.made(1), 12);
    }

    /** One day, one coat, half a buyer at 9: 9 by 2 wherever it is told. */
    private static SaturdaySale nineByTwo() {
        SaturdaySale x = Sales.ruled("0", 9);
        x.set(0, 1);
        x.set(1, 1);
        x.sort(2, 9, 0);
        return x;
    }

    private static void upperIsPart0AndLowerIsPart1() {
        SaturdaySale x = nineByTwo();
        DUE.fraction("brings", x.brings(0), x.brings(1), 9, 2);
        DUE.fraction("left", x.left(0, 0), x.left(0, 1), 1, 2);
        DUE.fraction("state", x.state(0, 1, 0), x.state(0, 1, 1), 9, 2);
        DUE.fraction("boy", x.boy(0), x.boy(1), 9, 2);
        int[] nine = {0, 1, 2, 4};
        for (int what : nine) {
            DUE.fraction("keeps " + what, x.keeps(what, 0), x.keeps(what, 1), 9, 2);
        }
    }

    private static void lowest(String call, long upper, long lower) {
        boolean lowest = lower > 0 && BigInteger.valueOf(upper).gcd(BigInteger.valueOf(lower)).equals(BigInteger.ONE);
        DUE.is(call + ": " + upper + " by " + lower + " are lowest terms", lowest ? 1 : 0, 1);
    }

    private static void allLowest(String sale, SaturdaySale x) {
        lowest(sale + " brings", x.brings(0), x.brings(1));
        lowest(sale + " boy", x.boy(0), x.boy(1));
        for (int what = 0; what <= 4; what++) {
            lowest(sale + " keeps " + what, x.keeps(what, 0), x.keeps(what, 1));
        }
        for (int n = 0; n <= x.told(0); n++) {
            lowest(sale + " left " + n, x.left(n, 0), x.left(n, 1));
            for (int day = 0; day <= x.told(1); day++) {
                lowest(sale + " state " + day + " " + n, x.state(day, n, 0), x.state(day, n, 1));
            }
        }
    }

    private static void lowestTerms() {
        allLowest("usual", Sales.usual());
        SaturdaySale x = Sales.full();
        x.set(0, 4);
        allLowest("4 coats, 6 days", x);
        SaturdaySale sure = Sales.full();
        for (int i = 0; i < 3; i++) {
            sure.change(i, 0, 4);
        }
        sure.set(0, 3);
        allLowest("sure buyers", sure);
    }

    private static void zero(String call, long upper, long lower) {
        DUE.fraction(call + " is nothing", upper, lower, 0, 1);
    }

    /** Three sorts and six days, so that the lower number is large ahead of being made less. */
    private static void nothingIs0By1() {
        SaturdaySale x = Sales.full();
        x.set(0, 0);
        zero("brings", x.brings(0), x.brings(1));
        zero("state", x.state(0, 0, 0), x.state(0, 0, 1));
        zero("state behind the last day", x.state(6, 0, 0), x.state(6, 0, 1));
        zero("boy", x.boy(0), x.boy(1));
        for (int what = 0; what <= 4; what++) {
            zero("keeps " + what, x.keeps(what, 0), x.keeps(what, 1));
        }
        x.set(0, 12);
        x.change(0, 0, 0);
        x.change(1, 0, 0);
        zero("left", x.left(5, 0), x.left(5, 1));
    }

    private static void lost(String call, ToLongFunction<SaturdaySale> fraction, Consumer<SaturdaySale> first, long due) {
        SaturdaySale x = new SaturdaySale();
        first.accept(x);
        DUE.is(call, fraction.applyAsLong(x), due);
    }

    private static void refusedFractionsAreLostAndTheRefusal() {
        Consumer<SaturdaySale> nothing = x -> { };
        Consumer<SaturdaySale> price = x -> x.price(5);
        for (int part : Sales.outside(0, 1)) {
            lost("brings " + part, x -> x.brings(part), price, Sales.LOST_OUTSIDE);
            lost("left " + part, x -> x.left(0, part), price, Sales.LOST_OUTSIDE);
            lost("state " + part, x -> x.state(0, 0, part), price, Sales.LOST_OUTSIDE);
            lost("keeps " + part, x -> x.keeps(0, part), price, Sales.LOST_OUTSIDE);
            lost("boy " + part, x -> x.boy(part), price, Sales.LOST_OUTSIDE);
        }
        for (int part = 0; part <= 1; part++) {
            int p = part;
            lost("brings " + p, x -> x.brings(p), nothing, Sales.LOST_STATE);
            lost("left " + p, x -> x.left(0, p), nothing, Sales.LOST_STATE);
            lost("state " + p, x -> x.state(0, 0, p), nothing, Sales.LOST_STATE);
            lost("keeps " + p, x -> x.keeps(0, p), nothing, Sales.LOST_STATE);
            lost("boy " + p, x -> x.boy(p), nothing, Sales.LOST_STATE);
            lost("boy without a rule " + p, x -> x.boy(p), price, Sales.LOST_STATE);
        }
    }

    /** 'An object is used for at most 512 calls': the last of them is answered as the first. */
    private static void theLastOf512Calls() {
        SaturdaySale x = nineByTwo();
        int calls = 6;
        for (; calls < 508; calls += 2) {
            DUE.is("call " + calls, x.change(0, 0, 4), 2);
            DUE.is("call " + (calls + 1), x.change(0, 0, 2), 4);
        }
        DUE.is("call 509", x.state(0, 1, 0), 9);
        DUE.is("call 510", x.keeps(2, 1), 2);
        DUE.is("call 511", x.price(8), 1);
        DUE.is("call 512", x.keeps(1, 0), 9);
    }
}
