/** Promises 1 to 6: a new object, set, price, sort, change, worth. */
public final class SaleTest {
    private static final Due DUE = new Due();

    public static void main(String[] args) {
        constants();
        newObject();
        newObjectRefuses();
        set();
        price();
        sort();
        change();
        changeOfWaiting();
        worth();
        refusedChangesNothing();
        DUE.end();
    }

    private static void constants() {
        DUE.is("UNKNOWN", SaturdaySale.UNKNOWN, -1);
        DUE.is("OUTSIDE", SaturdaySale.OUTSIDE, -2);
        DUE.is("STATE", SaturdaySale.STATE, -3);
        DUE.is("FULL", SaturdaySale.FULL, -4);
        DUE.is("NO", SaturdaySale.NO, -5);
        DUE.is("NONE", SaturdaySale.NONE, -6);
        DUE.is("LOST", SaturdaySale.LOST, -1_000_000_000_000_000_000L);
    }

    private static void newObject() {
        SaturdaySale x = new SaturdaySale();
        int[] first = {4, 3, 0, 0, 0, 0};
        for (int what = 0; what < first.length; what++) {
            DUE.is("new told " + what, x.told(what), first[what]);
        }
        for (int what = 10; what <= 15; what++) {
            DUE.is("new told " + what, x.told(what), 0);
        }
        for (int what = 20; what <= 24; what++) {
            DUE.is("new told " + what, x.told(what), -6);
        }
        for (int what = 30; what <= 32; what++) {
            DUE.is("new told " + what, x.told(what), -6);
        }
    }

    private static void newObjectRefuses() {
        SaturdaySale x = new SaturdaySale();
        DUE.is("brings", x.brings(0), -1_000_000_000_000_000_003L);
        DUE.is("left", x.left(4, 1), -1_000_000_000_000_000_003L);
        DUE.is("best", x.best(0, 1), -3);
        DUE.is("state", x.state(0, 0, 0), -1_000_000_000_000_000_003L);
        DUE.is("dip", x.dip(-1), -3);
        DUE.is("kept", x.kept(0, 0), -3);
        DUE.is("keeps", x.keeps(4, 0), -1_000_000_000_000_000_003L);
        DUE.is("rather", x.rather(), -3);
        DUE.is("picks", x.picks(0, 0), -1);
        DUE.is("made", x.made(0), -3);
        DUE.is("asks", x.asks(0, 0), -3);
        DUE.is("boy", x.boy(0), -1_000_000_000_000_000_003L);
        DUE.is("worst", x.worst(), -3);
        DUE.is("edge", x.edge(0), -1);
        x.price(10);
        DUE.is("asks without a rule", x.asks(0, 0), -3);
        DUE.is("boy without a rule", x.boy(1), -1_000_000_000_000_000_003L);
        DUE.is("worst without a rule", x.worst(), -3);
    }

    private static void set() {
        SaturdaySale x = new SaturdaySale();
        DUE.is("set coats 0", x.set(0, 0), 4);
        DUE.is("set coats 12", x.set(0, 12), 0);
        DUE.is("set coats 13", x.set(0, 13), -2);
        DUE.is("set coats -1", x.set(0, -1), -2);
        DUE.is("set days 6", x.set(1, 6), 3);
        DUE.is("set days 1", x.set(1, 1), 6);
        DUE.is("set days 0", x.set(1, 0), -2);
        DUE.is("set days 7", x.set(1, 7), -2);
        DUE.is("set rest 99", x.set(2, 99), 0);
        DUE.is("set rest 0", x.set(2, 0), 99);
        DUE.is("set rest 100", x.set(2, 100), -2);
        DUE.is("set rest -1", x.set(2, -1), -2);
        DUE.is("set 3", x.set(3, 1), -2);
        DUE.is("set -1", x.set(-1, 1), -2);
        DUE.is("coats", x.told(0), 12);
        DUE.is("days", x.told(1), 1);
        DUE.is("rest", x.told(2), 0);
    }

    private static void price() {
        SaturdaySale x = new SaturdaySale();
        DUE.is("price 0", x.price(0), -2);
        DUE.is("price 100", x.price(100), -2);
        DUE.is("price 99", x.price(99), 0);
        DUE.is("price 99 again", x.price(99), -2);
        DUE.is("price 98", x.price(98), 1);
        DUE.is("price 99 behind 98", x.price(99), -2);
        DUE.is("price 4", x.price(4), 2);
        DUE.is("price 3", x.price(3), 3);
        DUE.is("price 2", x.price(2), 4);
        DUE.is("price 1, the sixth", x.price(1), -4);
        DUE.is("price 2, not less and the sixth", x.price(2), -2);
        DUE.is("price 0, wrong and the sixth", x.price(0), -2);
        DUE.is("prices", x.told(3), 5);
        DUE.is("the last price", x.told(24), 2);
        SaturdaySale y = new SaturdaySale();
        DUE.is("price 1", y.price(1), 0);
        DUE.is("nothing less than 1", y.price(1), -2);
    }

    private static void sort() {
        SaturdaySale x = new SaturdaySale();
        DUE.is("chance -1", x.sort(-1, 0, 0), -2);
        DUE.is("chance 5", x.sort(5, 0, 0), -2);
        DUE.is("worth -1", x.sort(0, -1, 0), -2);
        DUE.is("worth 100", x.sort(0, 100, 0), -2);
        DUE.is("fall -1", x.sort(0, 0, -1), -2);
        DUE.is("fall 31", x.sort(0, 0, 31), -2);
        DUE.is("no sort yet", x.told(4), 0);
        DUE.is("least", x.sort(0, 0, 0), 0);
        DUE.is("most", x.sort(4, 99, 30), 1);
        DUE.is("third", x.sort(1, 2, 3), 2);
        DUE.is("fourth", x.sort(1, 2, 3), -4);
        DUE.is("fourth and wrong", x.sort(5, 2, 3), -2);
        DUE.is("sorts", x.told(4), 3);
        DUE.is("does not wait", x.told(32), -6);
    }

    private static void change() {
        SaturdaySale x = new SaturdaySale();
        DUE.is("no sort", x.change(0, 0, 0), -1);
        x.sort(2, 50, 10);
        x.sort(3, 60, 20);
        DUE.is("no sort 2", x.change(2, 0, 0), -1);
        DUE.is("no sort -1", x.change(-1, 9, 999), -1);
        DUE.is("what 4", x.change(0, 4, 0), -2);
        DUE.is("what -1", x.change(0, -1, 0), -2);
        int[][] ends = {{0, 4}, {0, 99}, {0, 30}};
        int[] was = {3, 60, 20};
        for (int what = 0; what < 3; what++) {
            DUE.is("below " + what, x.change(1, what, ends[what][0] - 1), -2);
            DUE.is("above " + what, x.change(1, what, ends[what][1] + 1), -2);
            DUE.is("least " + what, x.change(1, what, ends[what][0]), was[what]);
            DUE.is("most " + what, x.change(1, what, ends[what][1]), ends[what][0]);
            DUE.is("back " + what, x.change(1, what, was[what]), ends[what][1]);
        }
        DUE.is("other sort chance", x.change(0, 0, 1), 2);
        DUE.is("other sort worth", x.change(0, 1, 1), 50);
        DUE.is("other sort fall", x.change(0, 2, 1), 10);
    }

    private static void changeOfWaiting() {
        SaturdaySale x = new SaturdaySale();
        x.sort(2, 50, 10);
        x.sort(3, 60, 20);
        DUE.is("wait -2", x.change(1, 3, -2), -2);
        DUE.is("wait 31", x.change(1, 3, 31), -2);
        DUE.is("wait still not", x.change(1, 3, -1), -6);
        DUE.is("wait 0", x.change(1, 3, 0), -6);
        DUE.is("wait 30", x.change(1, 3, 30), 0);
        DUE.is("told 31", x.told(31), 30);
        DUE.is("told 30", x.told(30), -6);
        DUE.is("wait no more", x.change(1, 3, -1), 30);
        DUE.is("told 31 then", x.told(31), -6);
    }

    private static void worth() {
        SaturdaySale x = new SaturdaySale();
        x.sort(0, 50, 10);
        x.sort(4, 99, 0);
        x.sort(1, 7, 30);
        int[] falls = {50, 40, 30, 20, 10, 0};
        for (int day = 0; day < 6; day++) {
            DUE.is("worth 0 on " + day, x.worth(0, day), falls[day]);
            DUE.is("worth 1 on " + day, x.worth(1, day), 99);
            DUE.is("worth 2 on " + day, x.worth(2, day), day == 0 ? 7 : 0);
        }
        DUE.is("day 6", x.worth(0, 6), -2);
        DUE.is("day -1", x.worth(0, -1), -2);
        DUE.is("sort 3", x.worth(3, 0), -1);
        DUE.is("sort -1 on day 9", x.worth(-1, 9), -1);
        x.change(0, 1, 60);
        x.change(0, 2, 30);
        DUE.is("changed", x.worth(0, 1), 30);
    }

    private static void refusedChangesNothing() {
        SaturdaySale x = new SaturdaySale();
        x.price(50);
        x.sort(2, 60, 0);
        x.set(0, 13);
        x.set(1, 0);
        x.set(2, -5);
        x.price(50);
        x.sort(2, 100, 0);
        x.change(0, 1, 100);
        x.change(0, 0, -1);
        x.plan(7, 0);
        x.plan(0, 1);
        DUE.is("coats", x.told(0), 4);
        DUE.is("days", x.told(1), 3);
        DUE.is("rest", x.told(2), 0);
        DUE.is("prices", x.told(3), 1);
        DUE.is("sorts", x.told(4), 1);
        DUE.is("plan", x.told(10), 0);
        DUE.fraction("brings", x.brings(0), x.brings(1), 75, 1);
    }
}
