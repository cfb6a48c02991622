/** Promises 17 to 26: made, say, wipe, fault, rule, asks, boy, worst, edge, told. */
public final class RuleTest {
    private static final Due DUE = new Due();
    private static final long LOST_OUTSIDE = SaturdaySale.LOST - 2;
    private static final long LOST_STATE = SaturdaySale.LOST - 3;

    public static void main(String[] args) {
        made();
        say();
        wipe();
        faults();
        noFaults();
        rule();
        asks();
        asksTheLastPriceForOneThatThereIsNot();
        boy();
        worst();
        refusalsByRule();
        edge();
        edgeAtTheEnds();
        edgeDownOfLikeOnes();
        told();
        DUE.end();
    }

    private static void made() {
        SaturdaySale x = new SaturdaySale();
        DUE.is("cost 100, no prices", x.made(100), -2);
        DUE.is("no prices", x.made(99), -3);
        x.price(70);
        x.price(20);
        DUE.is("cost -1", x.made(-1), -2);
        DUE.is("cost 100", x.made(100), -2);
        DUE.is("nobody comes", x.made(0), 0);
        x.set(2, 50);
        DUE.is("a rest of 50 at 49", x.made(49), 12);
        DUE.is("a rest of 50 at 50", x.made(50), 0);
        x.set(2, 0);
        x.set(1, 6);
        x.sort(4, 70, 0);
        x.sort(4, 20, 0);
        x.sort(4, 20, 0);
        DUE.is("6 days at 69", x.made(69), 6);
        DUE.is("6 days at 70", x.made(70), 0);
        DUE.is("6 days at 0", x.made(0), 6);
        x.set(0, 0);
        DUE.is("whatever coats there are", x.made(0), 6);
        x.change(1, 0, 0);
        x.change(2, 0, 0);
        x.change(0, 0, 2);
        x.set(1, 1);
        DUE.is("half of 70 at 34", x.made(34), 1);
        DUE.is("half of 70 at 35", x.made(35), 0);
    }

    private static void say() {
        SaturdaySale x = new SaturdaySale();
        DUE.is("32", x.say(32), -2);
        DUE.is("127", x.say(127), -2);
        DUE.is("33", x.say(33), 1);
        DUE.is("126", x.say(126), 2);
        for (int i = 3; i <= 40; i++) {
            DUE.is("sign " + i, x.say('0'), i);
        }
        DUE.is("sign 41", x.say('0'), -4);
        DUE.is("sign 41 and wrong", x.say(0), -2);
        DUE.is("signs", x.told(5), 40);
    }

    private static void wipe() {
        SaturdaySale x = new SaturdaySale();
        DUE.is("nothing", x.wipe(), 0);
        x.price(20);
        x.price(10);
        sayAll(x, "1");
        x.rule();
        sayAll(x, "l<");
        DUE.is("two", x.wipe(), 2);
        DUE.is("none now", x.told(5), 0);
        DUE.is("none to wipe", x.wipe(), 0);
        DUE.is("the rule stays", x.asks(0, 0), 1);
    }

    private static void sayAll(SaturdaySale x, String text) {
        for (int i = 0; i < text.length(); i++) {
            x.say(text.charAt(i));
        }
    }

    private static int faultOf(String text) {
        SaturdaySale x = new SaturdaySale();
        sayAll(x, text);
        return x.fault();
    }

    private static void faults() {
        DUE.is("nothing", faultOf(""), 0);
        String clause = "l<12:4;";
        for (int i = 0; i < clause.length(); i++) {
            DUE.is("a clause up to " + i, faultOf(clause.substring(0, i)), i);
            DUE.is("a wrong sign at " + i, faultOf(clause.substring(0, i) + "x" + clause), i);
            DUE.is("behind a clause up to " + i, faultOf("d=0:0;" + clause.substring(0, i)), 6 + i);
        }
        DUE.is("a clause alone", faultOf(clause), 7);
        DUE.is("5 at first", faultOf("5"), 0);
        DUE.is("5 at last", faultOf("l<1:0;5"), 6);
        DUE.is("5 in a clause", faultOf("l<1:5;0"), 4);
        DUE.is("three digits", faultOf("l<123:0;0"), 4);
        DUE.is("no digit", faultOf("l<:0;0"), 2);
        DUE.is("two facts", faultOf("ld<1:0;0"), 1);
        DUE.is("two signs", faultOf("l<=1:0;0"), 2);
        DUE.is("two numbers", faultOf("l<1:00;0"), 5);
        DUE.is("two semicolons", faultOf("l<1:0;;0"), 6);
        DUE.is("more behind the last", faultOf("00"), 1);
        DUE.is("a clause behind the last", faultOf("1l<1:0;0"), 1);
        DUE.is("a semicolon behind the last", faultOf("l<1:0;0;"), 7);
        DUE.is("capital", faultOf("L<1:0;0"), 0);
        DUE.is("sign ahead of digits", faultOf("l<+1:0;0"), 2);
        DUE.is("40 signs, all good, one must come", faultOf("l<10:0;l<10:0;l<10:0;l<10:0;l<10:0;l<1:0"), 40);
        DUE.is("below 0", faultOf("/"), 0);
    }

    private static void noFaults() {
        String[] texts = {"0", "4", "l<0:0;0", "l>9:4;4", "d=00:1;2", "d<99:0;l=09:3;1",
            "l<1:0;l<2:1;l<3:2;l<4:3;l<5:4;d>1:0;1", "l<10:0;l<10:0;l<10:0;l<1:0;l<1:0;l<1:0;0"};
        for (String text : texts) {
            DUE.is(text, faultOf(text), -6);
        }
    }

    private static void rule() {
        SaturdaySale x = new SaturdaySale();
        DUE.is("nothing", x.rule(), -5);
        sayAll(x, "l<1");
        DUE.is("a fault", x.rule(), -5);
        DUE.is("the signs stay", x.told(5), 3);
        sayAll(x, ":1;0");
        DUE.is("a clause", x.rule(), 1);
        DUE.is("the signs go", x.told(5), 0);
        DUE.is("nothing again", x.rule(), -5);
        sayAll(x, "l<1:0;l<2:1;l<3:2;l<4:3;l<5:4;d>1:0;1");
        DUE.is("six clauses", x.rule(), 6);
        sayAll(x, "3");
        DUE.is("no clause", x.rule(), 0);
    }

    private static SaturdaySale fivePrices(String text) {
        SaturdaySale x = new SaturdaySale();
        for (int v = 50; v >= 10; v -= 10) {
            x.price(v);
        }
        sayAll(x, text);
        x.rule();
        return x;
    }

    private static void asks() {
        SaturdaySale x = fivePrices("d>4:4;l<3:1;l=12:2;d=0:3;0");
        for (int day = 0; day <= 5; day++) {
            for (int n = 0; n <= 12; n++) {
                int due = day > 4 ? 4 : n < 3 ? 1 : n == 12 ? 2 : day == 0 ? 3 : 0;
                DUE.is("asks " + day + " " + n, x.asks(day, n), due);
            }
        }
        DUE.is("day 6", x.asks(6, 0), -2);
        DUE.is("day -1", x.asks(-1, 0), -2);
        DUE.is("coats 13", x.asks(0, 13), -2);
        DUE.is("coats -1", x.asks(0, -1), -2);
        SaturdaySale y = fivePrices("d<3:2;l>09:3;4");
        for (int day = 0; day <= 5; day++) {
            for (int n = 0; n <= 12; n++) {
                DUE.is("asks " + day + " " + n, y.asks(day, n), day < 3 ? 2 : n > 9 ? 3 : 4);
            }
        }
        sayAll(y, "1");
        DUE.is("the old rule still", y.asks(0, 0), 2);
        y.rule();
        DUE.is("the new rule", y.asks(0, 0), 1);
    }

    private static void asksTheLastPriceForOneThatThereIsNot() {
        SaturdaySale x = new SaturdaySale();
        sayAll(x, "l<3:3;1");
        x.rule();
        x.price(20);
        DUE.is("one price", x.asks(0, 3), 0);
        x.price(10);
        DUE.is("two prices", x.asks(0, 3), 1);
        DUE.is("two prices, 3", x.asks(0, 2), 1);
        x.price(9);
        DUE.is("three prices, 3", x.asks(0, 2), 2);
        x.price(8);
        x.price(7);
        DUE.is("five prices, 3", x.asks(0, 2), 3);
        DUE.is("five prices, 1", x.asks(0, 3), 1);
    }

    /** Two sure buyers at 20 and 10 on each of two days; 10 with two coats or more, else 20. */
    private static void boy() {
        SaturdaySale x = new SaturdaySale();
        x.price(20);
        x.price(10);
        x.set(1, 2);
        x.sort(4, 10, 0);
        x.sort(4, 20, 0);
        sayAll(x, "l>1:1;0");
        x.rule();
        int[] due = {0, 20, 20, 40, 40};
        for (int n = 0; n <= 4; n++) {
            x.set(0, n);
            DUE.fraction("boy with " + n, x.boy(0), x.boy(1), due[n], 1);
        }
        x.set(0, 3);
        x.set(2, 6);
        DUE.fraction("none are left", x.boy(0), x.boy(1), 40, 1);
        x.change(1, 0, 2);
        DUE.fraction("at times one is left", x.boy(0), x.boy(1), 61, 2);
        DUE.is("part 2", x.boy(2), LOST_OUTSIDE);
        DUE.is("part -1", x.boy(-1), LOST_OUTSIDE);
        x.change(0, 3, 0);
        DUE.fraction("nobody waits", x.boy(0), x.boy(1), 61, 2);
    }

    private static void worst() {
        SaturdaySale x = new SaturdaySale();
        x.price(20);
        x.price(10);
        x.set(1, 1);
        sayAll(x, "1");
        x.rule();
        DUE.is("all alike", x.worst(), 1);
        x.sort(4, 20, 0);
        DUE.is("ten less with each", x.worst(), 1);
        sayAll(x, "l<3:0;1");
        x.rule();
        DUE.is("less from 3 on", x.worst(), 3);
        sayAll(x, "l<2:0;1");
        x.rule();
        DUE.is("less from 2 on", x.worst(), 2);
        sayAll(x, "l<12:0;1");
        x.rule();
        x.set(0, 0);
        DUE.is("less with 12", x.worst(), 12);
        sayAll(x, "l=5:1;l=7:1;0");
        x.rule();
        DUE.is("less with 5 and 7", x.worst(), 5);
        x.set(1, 2);
        sayAll(x, "l=5:1;l=6:1;0");
        x.rule();
        DUE.is("less on both days with 6", x.worst(), 6);
    }

    private static void refusalsByRule() {
        SaturdaySale x = new SaturdaySale();
        DUE.is("asks, wrong, no prices, no rule", x.asks(6, 0), -2);
        DUE.is("asks, no prices, no rule", x.asks(5, 12), -3);
        DUE.is("boy, wrong, no prices, no rule", x.boy(2), LOST_OUTSIDE);
        sayAll(x, "0");
        x.rule();
        DUE.is("asks, no prices", x.asks(0, 0), -3);
        DUE.is("boy, no prices", x.boy(0), LOST_STATE);
        DUE.is("worst, no prices", x.worst(), -3);
        x.price(1);
        DUE.is("asks", x.asks(0, 0), 0);
        DUE.is("boy", x.boy(0), 0);
        DUE.is("worst", x.worst(), 1);
        SaturdaySale y = new SaturdaySale();
        y.price(1);
        sayAll(y, "0");
        DUE.is("asks, signs but no rule", y.asks(0, 0), -3);
        DUE.is("boy, signs but no rule", y.boy(1), LOST_STATE);
        DUE.is("worst, signs but no rule", y.worst(), -3);
    }

    private static void edge() {
        SaturdaySale x = new SaturdaySale();
        DUE.is("no sort", x.edge(0), -1);
        x.sort(4, 20, 0);
        x.sort(2, 30, 0);
        DUE.is("no prices", x.edge(0), -3);
        DUE.is("no sort 2", x.edge(2), -1);
        DUE.is("no sort -1", x.edge(-1), -1);
        x.price(30);
        x.price(20);
        x.set(1, 1);
        x.set(0, 0);
        DUE.is("no coats", x.edge(0), -3);
        x.set(0, 1);
        DUE.is("20 is best", x.best(0, 1), 1);
        DUE.is("30 by 3 quarters", x.edge(1), 3);
        DUE.is("30 by 2 quarters of the other", x.edge(0), 2);
        x.change(1, 0, 0);
        DUE.is("from 0 on", x.edge(1), 3);
        DUE.is("nothing to like of 4", x.edge(0), 0);
        x.change(1, 0, 4);
        DUE.is("from 4 on", x.edge(1), 2);
        DUE.is("no change does", x.edge(0), -6);
        DUE.is("chances are as they were", x.change(0, 0, 4), 4);
        DUE.is("best is as it was", x.best(0, 1), 0);
    }

    /** One coat, one day: 30 by chance is more than a sure 29 only if it is sure, too. */
    private static void edgeAtTheEnds() {
        SaturdaySale x = new SaturdaySale();
        x.set(0, 1);
        x.set(1, 1);
        x.price(30);
        x.price(29);
        x.sort(4, 29, 0);
        x.sort(0, 30, 0);
        DUE.is("up to 4", x.edge(1), 4);
        DUE.is("down to 0", x.edge(0), 0);
        x.change(1, 0, 3);
        DUE.is("up to 4 from 3", x.edge(1), 4);
        x.change(1, 0, 4);
        DUE.is("down to 3 from 4", x.edge(1), 3);
    }

    /**
     * One day, coats for all: 95 brings 95; 65 brings 65 and 65 times the chance of sort 1; 40 brings
     * 80 and 40 times it. With 1 quarter 95 is best, with 2 quarters 40 (100), with 3 quarters 65.
     */
    private static void edgeDownOfLikeOnes() {
        SaturdaySale x = new SaturdaySale();
        x.set(1, 1);
        x.price(95);
        x.price(65);
        x.price(40);
        x.sort(4, 95, 0);
        x.sort(2, 65, 0);
        x.sort(4, 40, 0);
        DUE.is("best", x.best(0, 4), 2);
        DUE.is("down", x.edge(1), 1);
        x.change(1, 0, 1);
        DUE.is("best with 1", x.best(0, 4), 0);
        DUE.is("up", x.edge(1), 2);
        x.change(1, 0, 3);
        DUE.is("best with 3", x.best(0, 4), 1);
        DUE.is("down again", x.edge(1), 2);
    }

    private static void told() {
        SaturdaySale x = new SaturdaySale();
        x.set(0, 9);
        x.set(1, 5);
        x.set(2, 17);
        x.price(33);
        x.price(22);
        x.sort(1, 2, 3);
        x.sort(1, 2, 3);
        x.change(1, 3, 0);
        x.say('l');
        x.plan(0, 1);
        x.plan(5, 1);
        int[][] due = {{0, 9}, {1, 5}, {2, 17}, {3, 2}, {4, 2}, {5, 1}, {10, 1}, {11, 0}, {14, 0}, {15, 1},
            {20, 33}, {21, 22}, {22, -6}, {24, -6}, {30, -6}, {31, 0}, {32, -6}};
        for (int[] d : due) {
            DUE.is("told " + d[0], x.told(d[0]), d[1]);
        }
        int[] wrong = {-1, 6, 9, 16, 19, 25, 29, 33, Integer.MAX_VALUE, Integer.MIN_VALUE};
        for (int what : wrong) {
            DUE.is("told " + what, x.told(what), -2);
        }
    }
}
