import java.math.BigInteger;
import java.util.ArrayList;
import java.util.HashMap;
import java.util.List;
import java.util.Map;
import java.util.regex.Matcher;
import java.util.regex.Pattern;

/**
 * The document once more, written as slowly and as literally as can be, with fractions of big whole
 * numbers and nothing kept between calls; the class is held against it by ModelTest.
 */
final class PlainSale {
    /** A fraction in lowest terms, its lower number above 0. */
    record Q(BigInteger up, BigInteger low) implements Comparable<Q> {
        static final Q ZERO = of(0, 1);

        static Q of(long up, long low) {
            return make(BigInteger.valueOf(up), BigInteger.valueOf(low));
        }

        static Q make(BigInteger up, BigInteger low) {
            BigInteger g = up.gcd(low);
            return new Q(up.divide(g), low.divide(g));
        }

        Q plus(Q o) {
            return make(up.multiply(o.low).add(o.up.multiply(low)), low.multiply(o.low));
        }

        Q minus(Q o) {
            return plus(o.times(of(-1, 1)));
        }

        Q times(Q o) {
            return make(up.multiply(o.up), low.multiply(o.low));
        }

        @Override
        public int compareTo(Q o) {
            return up.multiply(o.low).compareTo(o.up.multiply(low));
        }

        long part(int part) {
            return (part == 0 ? up : low).longValueExact();
        }
    }

    /** A price by day and by what is left when the day begins. */
    interface Asking {
        int number(int day, int n);
    }

    private static final class Sort {
        int chance;
        int worth;
        int fall;
        int wait = -1;
    }

    private record Comer(int first, int sort) {
    }

    private static final Pattern RULE = Pattern.compile("((?:[ld][<>=][0-9][0-9]?:[0-4];)*)([0-4])");
    private static final Pattern CLAUSE = Pattern.compile("([ld])([<>=])([0-9][0-9]?):([0-4]);");

    private int coats = 4;
    private int days = 3;
    private int rest = 0;
    private final List<Integer> prices = new ArrayList<>();
    private final List<Sort> sorts = new ArrayList<>();
    private final int[] plan = new int[6];
    private String signs = "";
    private String rule = null;

    private static boolean in(int v, int least, int most) {
        return least <= v && v <= most;
    }

    int set(int which, int v) {
        int was = which == 0 ? coats : which == 1 ? days : rest;
        if (which == 0 && in(v, 0, 12)) {
            coats = v;
        } else if (which == 1 && in(v, 1, 6)) {
            days = v;
        } else if (which == 2 && in(v, 0, 99)) {
            rest = v;
        } else {
            return -2;
        }
        return was;
    }

    int price(int v) {
        if (!in(v, 1, 99) || (!prices.isEmpty() && prices.get(prices.size() - 1) <= v)) {
            return -2;
        }
        if (prices.size() == 5) {
            return -4;
        }
        prices.add(v);
        return prices.size() - 1;
    }

    int sort(int chance, int worth, int fall) {
        if (!in(chance, 0, 4) || !in(worth, 0, 99) || !in(fall, 0, 30)) {
            return -2;
        }
        if (sorts.size() == 3) {
            return -4;
        }
        Sort s = new Sort();
        s.chance = chance;
        s.worth = worth;
        s.fall = fall;
        sorts.add(s);
        return sorts.size() - 1;
    }

    int change(int sort, int what, int v) {
        if (!in(sort, 0, sorts.size() - 1)) {
            return -1;
        }
        Sort s = sorts.get(sort);
        int was;
        switch (what) {
            case 0:
                if (!in(v, 0, 4)) {
                    return -2;
                }
                was = s.chance;
                s.chance = v;
                return was;
            case 1:
                if (!in(v, 0, 99)) {
                    return -2;
                }
                was = s.worth;
                s.worth = v;
                return was;
            case 2:
                if (!in(v, 0, 30)) {
                    return -2;
                }
                was = s.fall;
                s.fall = v;
                return was;
            case 3:
                if (!in(v, -1, 30)) {
                    return -2;
                }
                was = s.wait == -1 ? -6 : s.wait;
                s.wait = v;
                return was;
            default:
                return -2;
        }
    }

    int worth(int sort, int day) {
        if (!in(sort, 0, sorts.size() - 1)) {
            return -1;
        }
        return in(day, 0, 5) ? worthOn(sort, day) : -2;
    }

    private int worthOn(int sort, int day) {
        int worth = sorts.get(sort).worth - sorts.get(sort).fall * day;
        return worth < 0 ? 0 : worth;
    }

    int plan(int day, int price) {
        if (!in(price, 0, prices.size() - 1)) {
            return -1;
        }
        if (!in(day, 0, 5)) {
            return -2;
        }
        int was = plan[day];
        plan[day] = price;
        return was;
    }

    /** The sale from a day on: those of a day come or do not come, in all ways that there are. */
    private Q mean(int day, int n, Asking asking, Map<Integer, Q> known) {
        if (day == days) {
            return Q.of((long) rest * n, 1);
        }
        Q was = known.get(100 * day + n);
        if (was != null) {
            return was;
        }
        int paid = prices.get(asking.number(day, n));
        Q sum = Q.ZERO;
        for (int who = 0; who < 1 << sorts.size(); who++) {
            Q odds = Q.of(1, 1);
            int sold = 0;
            for (int s = 0; s < sorts.size(); s++) {
                boolean comes = (who >> s & 1) == 1;
                odds = odds.times(Q.of(comes ? sorts.get(s).chance : 4 - sorts.get(s).chance, 4));
                if (comes && sold < n && worthOn(s, day) >= paid) {
                    sold++;
                }
            }
            if (odds.compareTo(Q.ZERO) > 0) {
                Q later = mean(day + 1, n - sold, asking, known);
                sum = sum.plus(odds.times(later.plus(Q.of((long) paid * sold, 1))));
            }
        }
        known.put(100 * day + n, sum);
        return sum;
    }

    private Q mean(int day, int n, Asking asking) {
        return mean(day, n, asking, new HashMap<>());
    }

    private Q bringsOf(int[] numbers) {
        return mean(0, coats, (day, n) -> numbers[day]);
    }

    private static long lost(int refusal) {
        return -1_000_000_000_000_000_000L + refusal;
    }

    private int refusal(boolean right) {
        return !right ? -2 : prices.isEmpty() ? -3 : 0;
    }

    long brings(int part) {
        int no = refusal(in(part, 0, 1));
        return no != 0 ? lost(no) : bringsOf(plan).part(part);
    }

    /** The odds to have come to n coats at the beginning of a day. */
    private Map<Integer, Q> oddsAt(int until, int[] numbers) {
        Map<Integer, Q> odds = new HashMap<>();
        odds.put(coats, Q.of(1, 1));
        for (int day = 0; day < until; day++) {
            int paid = prices.get(numbers[day]);
            for (int s = 0; s < sorts.size(); s++) {
                if (worthOn(s, day) < paid) {
                    continue;
                }
                Map<Integer, Q> next = new HashMap<>();
                for (Map.Entry<Integer, Q> e : odds.entrySet()) {
                    Q comes = e.getValue().times(Q.of(sorts.get(s).chance, 4));
                    next.merge(Math.max(0, e.getKey() - 1), comes, Q::plus);
                    next.merge(e.getKey(), e.getValue().minus(comes), Q::plus);
                }
                odds = next;
            }
        }
        return odds;
    }

    long left(int n, int part) {
        int no = refusal(in(n, 0, coats) && in(part, 0, 1));
        return no != 0 ? lost(no) : oddsAt(days, plan).getOrDefault(n, Q.ZERO).part(part);
    }

    /** Best prices, found from the last day back. */
    private int[][] bestNumbers() {
        int[][] found = new int[6][13];
        for (int day = days - 1; day >= 0; day--) {
            for (int n = 0; n <= 12; n++) {
                int top = 0;
                Q most = null;
                for (int p = 0; p < prices.size(); p++) {
                    found[day][n] = p;
                    Q m = mean(day, n, (d, k) -> found[d][k]);
                    if (most == null || m.compareTo(most) > 0) {
                        most = m;
                        top = p;
                    }
                }
                found[day][n] = top;
            }
        }
        return found;
    }

    private Q worthOf(int day, int n) {
        int[][] numbers = bestNumbers();
        return mean(day, n, (d, k) -> numbers[d][k]);
    }

    int best(int day, int n) {
        int no = refusal(in(day, 0, days - 1) && in(n, 1, coats));
        return no != 0 ? no : bestNumbers()[day][n];
    }

    long state(int day, int n, int part) {
        int no = refusal(in(day, 0, days) && in(n, 0, coats) && in(part, 0, 1));
        return no != 0 ? lost(no) : worthOf(day, n).part(part);
    }

    int dip(int i) {
        if (prices.isEmpty()) {
            return -3;
        }
        int[][] numbers = bestNumbers();
        List<Integer> dips = new ArrayList<>();
        for (int day = 0; day < days; day++) {
            for (int n = 1; n <= coats - 1; n++) {
                if (prices.get(numbers[day][n]) < prices.get(numbers[day][n + 1])) {
                    dips.add(100 * day + n);
                }
            }
        }
        return i == -1 ? dips.size() : in(i, 0, dips.size() - 1) ? dips.get(i) : -6;
    }

    /** All plans in the order of their days, those that rise left out. */
    private List<int[]> fallingPlans() {
        List<int[]> plans = new ArrayList<>();
        int all = 1;
        for (int day = 0; day < days; day++) {
            all *= prices.size();
        }
        for (int code = 0; code < all; code++) {
            int[] numbers = new int[6];
            int c = code;
            for (int day = days - 1; day >= 0; day--) {
                numbers[day] = c % prices.size();
                c /= prices.size();
            }
            boolean rises = false;
            for (int day = 1; day < days; day++) {
                rises |= numbers[day] < numbers[day - 1];
            }
            if (!rises) {
                plans.add(numbers);
            }
        }
        return plans;
    }

    /** KEPT (0), ONCE (1), MET BEST (2). */
    private int[] promise(int what) {
        int[] top = null;
        Q most = null;
        for (int[] numbers : fallingPlans()) {
            long different = java.util.Arrays.stream(numbers, 0, days).distinct().count();
            if (what == 1 && different > 2) {
                continue;
            }
            Q m = what == 2 ? metOf(numbers) : bringsOf(numbers);
            if (most == null || m.compareTo(most) > 0) {
                most = m;
                top = numbers;
            }
        }
        return top;
    }

    int kept(int what, int day) {
        int no = refusal(in(what, 0, 2) && in(day, 0, days - 1));
        return no != 0 ? no : promise(what)[day];
    }

    long keeps(int what, int part) {
        int no = refusal(in(what, 0, 4) && in(part, 0, 1));
        if (no != 0) {
            return lost(no);
        }
        switch (what) {
            case 0:
            case 1:
                return bringsOf(promise(what)).part(part);
            case 2:
                return metOf(promise(2)).part(part);
            case 3:
                return worthOf(0, coats).minus(bringsOf(promise(0))).part(part);
            default:
                return metOf(plan).part(part);
        }
    }

    int rather() {
        if (prices.isEmpty()) {
            return -3;
        }
        int[] promised = promise(0);
        int[][] numbers = bestNumbers();
        for (int day = 0; day < days; day++) {
            Map<Integer, Q> odds = oddsAt(day, promised);
            for (int n = 0; n <= coats; n++) {
                if (odds.getOrDefault(n, Q.ZERO).compareTo(Q.ZERO) > 0
                        && mean(day, n, (d, k) -> numbers[d][k]).compareTo(mean(day, n, (d, k) -> promised[d])) > 0) {
                    return 100 * day + n;
                }
            }
        }
        return -6;
    }

    private int picked(int sort, int first, int[] numbers) {
        int gain = Integer.MIN_VALUE;
        int picked = -6;
        for (int day = first; day < days; day++) {
            int g = worthOn(sort, day) - prices.get(numbers[day]) - sorts.get(sort).wait * (day - first);
            if (g > gain) {
                gain = g;
                picked = day;
            }
        }
        return gain >= 0 ? picked : -6;
    }

    int picks(int sort, int day) {
        if (!in(sort, 0, sorts.size() - 1)) {
            return -1;
        }
        int no = refusal(in(day, 0, days - 1));
        if (no != 0) {
            return no;
        }
        return sorts.get(sort).wait == -1 ? -5 : picked(sort, day, plan);
    }

    private Q metOf(int[] numbers) {
        List<List<Comer>> comers = new ArrayList<>();
        for (int day = 0; day < days; day++) {
            comers.add(new ArrayList<>());
        }
        for (int first = 0; first < days; first++) {
            for (int s = 0; s < sorts.size(); s++) {
                int day = sorts.get(s).wait == -1 ? first : picked(s, first, numbers);
                if (day >= 0) {
                    comers.get(day).add(new Comer(first, s));
                }
            }
        }
        Map<Integer, Q> odds = new HashMap<>();
        odds.put(coats, Q.of(1, 1));
        Q sum = Q.ZERO;
        for (int day = 0; day < days; day++) {
            int paid = prices.get(numbers[day]);
            for (Comer comer : comers.get(day)) {
                if (sorts.get(comer.sort()).wait == -1 && worthOn(comer.sort(), day) < paid) {
                    continue;
                }
                Map<Integer, Q> next = new HashMap<>();
                for (Map.Entry<Integer, Q> e : odds.entrySet()) {
                    Q comes = e.getValue().times(Q.of(sorts.get(comer.sort()).chance, 4));
                    if (e.getKey() > 0) {
                        sum = sum.plus(comes.times(Q.of(paid, 1)));
                    }
                    next.merge(Math.max(0, e.getKey() - 1), comes, Q::plus);
                    next.merge(e.getKey(), e.getValue().minus(comes), Q::plus);
                }
                odds = next;
            }
        }
        for (Map.Entry<Integer, Q> e : odds.entrySet()) {
            sum = sum.plus(e.getValue().times(Q.of((long) e.getKey() * rest, 1)));
        }
        return sum;
    }

    int made(int cost) {
        int no = refusal(in(cost, 0, 99));
        if (no != 0) {
            return no;
        }
        int[][] numbers = bestNumbers();
        int top = 0;
        Q most = null;
        for (int n = 0; n <= 12; n++) {
            Q m = mean(0, n, (d, k) -> numbers[d][k]).minus(Q.of((long) cost * n, 1));
            if (most == null || m.compareTo(most) > 0) {
                most = m;
                top = n;
            }
        }
        return top;
    }

    int say(int sign) {
        if (!in(sign, 33, 126)) {
            return -2;
        }
        if (signs.length() == 40) {
            return -4;
        }
        signs += (char) sign;
        return signs.length();
    }

    int wipe() {
        int was = signs.length();
        signs = "";
        return was;
    }

    /** A text can still become a rule if some ending makes it one. */
    private static boolean canGoOn(String text) {
        String[] endings = {"", "0", ";0", "0;0", ":0;0", "0:0;0", "<0:0;0"};
        for (String ending : endings) {
            if (RULE.matcher(text + ending).matches()) {
                return true;
            }
        }
        return false;
    }

    int fault() {
        for (int i = 0; i < signs.length(); i++) {
            if (!canGoOn(signs.substring(0, i + 1))) {
                return i;
            }
        }
        return RULE.matcher(signs).matches() ? -6 : signs.length();
    }

    int rule() {
        if (!RULE.matcher(signs).matches()) {
            return -5;
        }
        rule = signs;
        signs = "";
        return (int) rule.chars().filter(c -> c == ';').count();
    }

    private int asked(int day, int n) {
        Matcher m = CLAUSE.matcher(rule);
        int number = rule.charAt(rule.length() - 1) - '0';
        while (m.find()) {
            int fact = m.group(1).equals("l") ? n : day;
            int bound = Integer.parseInt(m.group(3));
            String how = m.group(2);
            if (how.equals("<") ? fact < bound : how.equals(">") ? fact > bound : fact == bound) {
                number = m.group(4).charAt(0) - '0';
                break;
            }
        }
        return number < prices.size() ? number : prices.size() - 1;
    }

    private int ruleRefusal(boolean right) {
        return !right ? -2 : prices.isEmpty() || rule == null ? -3 : 0;
    }

    int asks(int day, int n) {
        int no = ruleRefusal(in(day, 0, 5) && in(n, 0, 12));
        return no != 0 ? no : asked(day, n);
    }

    long boy(int part) {
        int no = ruleRefusal(in(part, 0, 1));
        return no != 0 ? lost(no) : mean(0, coats, this::asked).part(part);
    }

    int worst() {
        int no = ruleRefusal(true);
        if (no != 0) {
            return no;
        }
        int[][] numbers = bestNumbers();
        int top = 0;
        Q most = null;
        for (int n = 1; n <= 12; n++) {
            Q m = mean(0, n, (d, k) -> numbers[d][k]).minus(mean(0, n, this::asked));
            if (most == null || m.compareTo(most) > 0) {
                most = m;
                top = n;
            }
        }
        return top;
    }

    int edge(int sort) {
        if (!in(sort, 0, sorts.size() - 1)) {
            return -1;
        }
        if (prices.isEmpty() || coats == 0) {
            return -3;
        }
        Sort s = sorts.get(sort);
        int chance = s.chance;
        int number = bestNumbers()[0][coats];
        int edge = -6;
        int least = 9;
        for (int c = 0; c <= 4; c++) {
            s.chance = c;
            int by = Math.abs(c - chance);
            if (bestNumbers()[0][coats] != number && by < least) {
                edge = c;
                least = by;
            }
        }
        s.chance = chance;
        return edge;
    }

    int told(int what) {
        if (in(what, 10, 15)) {
            return plan[what - 10];
        }
        if (in(what, 20, 24)) {
            return what - 20 < prices.size() ? prices.get(what - 20) : -6;
        }
        if (in(what, 30, 32)) {
            return what - 30 < sorts.size() && sorts.get(what - 30).wait >= 0 ? sorts.get(what - 30).wait : -6;
        }
        int[] first = {coats, days, rest, prices.size(), sorts.size(), signs.length()};
        return in(what, 0, 5) ? first[what] : -2;
    }
}
