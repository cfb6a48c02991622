import java.util.ArrayList;
import java.util.List;

/** Sales and numbers that the boundary tests share. */
final class Sales {
    static final int UNKNOWN = -1;
    static final int OUTSIDE = -2;
    static final int STATE = -3;
    static final int FULL = -4;
    static final int NO = -5;
    static final int NONE = -6;
    static final long LOST_OUTSIDE = -1_000_000_000_000_000_002L;
    static final long LOST_STATE = -1_000_000_000_000_000_003L;

    private Sales() {
    }

    /** One too small, one too large, far ones, and those that would fit if some of their bits were lost. */
    static int[] outside(int least, int most) {
        return new int[] {least - 1, most + 1, least - 1000, most + 1000, least + 0x100, most + 0x10000,
            least + 0x7f000000, Integer.MIN_VALUE, Integer.MIN_VALUE + most, Integer.MAX_VALUE};
    }

    static void say(SaturdaySale x, String text) {
        for (int i = 0; i < text.length(); i++) {
            x.say(text.charAt(i));
        }
    }

    static void plan(SaturdaySale x, int... numbers) {
        for (int day = 0; day < numbers.length; day++) {
            x.plan(day, numbers[day]);
        }
    }

    static SaturdaySale priced(int... prices) {
        SaturdaySale x = new SaturdaySale();
        for (int v : prices) {
            x.price(v);
        }
        return x;
    }

    static SaturdaySale ruled(String text, int... prices) {
        SaturdaySale x = priced(prices);
        say(x, text);
        x.rule();
        return x;
    }

    /** 4 coats, 3 days; something of each kind is told, and nothing is full. */
    static SaturdaySale usual() {
        SaturdaySale x = ruled("l<3:0;d=2:2;1", 80, 50, 30);
        x.set(2, 7);
        x.sort(3, 80, 20);
        x.sort(2, 55, 5);
        x.change(0, 3, 5);
        plan(x, 0, 1, 2, 1, 0, 2);
        say(x, "l<");
        return x;
    }

    /** Most of all: 12 coats, 6 days, 5 prices, 3 sorts, 40 signs. */
    static SaturdaySale full() {
        SaturdaySale x = ruled("l<10:4;2", 99, 80, 60, 40, 20);
        x.set(0, 12);
        x.set(1, 6);
        x.set(2, 99);
        for (int i = 0; i < 3; i++) {
            x.sort(3, 99 - i, i);
            x.change(i, 3, 10 * i);
        }
        for (int i = 0; i < 40; i++) {
            x.say('0');
        }
        return x;
    }

    /** What an object tells and answers, by calls that only ask: some 300 of them in a sale like the usual one. */
    static List<Long> answers(SaturdaySale x) {
        List<Long> all = new ArrayList<>();
        for (int what = 0; what <= 32; what++) {
            all.add((long) x.told(what));
        }
        int coats = x.told(0);
        int days = x.told(1);
        for (int part = 0; part <= 1; part++) {
            all.add(x.brings(part));
            all.add(x.boy(part));
            for (int what = 0; what <= 4; what++) {
                all.add(x.keeps(what, part));
            }
            for (int n = 0; n <= coats; n++) {
                all.add(x.left(n, part));
                all.add(x.state(0, n, part));
            }
        }
        for (int day = 0; day < days; day++) {
            for (int n = 1; n <= coats; n++) {
                all.add((long) x.best(day, n));
            }
            for (int what = 0; what <= 2; what++) {
                all.add((long) x.kept(what, day));
                all.add((long) x.picks(what, day));
                all.add((long) x.worth(what, day));
            }
        }
        for (int n = 0; n <= 12; n++) {
            all.add((long) x.asks(0, n));
            all.add((long) x.asks(5, n));
        }
        for (int i = -1; i <= 2; i++) {
            all.add((long) x.dip(i));
            all.add((long) x.edge(i));
            all.add((long) x.made(30 * (i + 1)));
        }
        all.add((long) x.rather());
        all.add((long) x.worst());
        all.add((long) x.fault());
        return all;
    }
}
