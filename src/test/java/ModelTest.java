import java.util.Random;

/** Runs of chosen calls on the class and on the plain model, which must answer alike. */
public final class ModelTest {
    private static final Due DUE = new Due();
    private static final int RUNS = 150;
    private static final int CALLS = 60;

    private final Random random;
    private final SaturdaySale x = new SaturdaySale();
    private final PlainSale y = new PlainSale();
    private final StringBuilder told = new StringBuilder();

    private ModelTest(long seed) {
        random = new Random(seed);
    }

    public static void main(String[] args) {
        int runs = args.length > 0 ? Integer.parseInt(args[0]) : RUNS;
        for (int seed = 1; seed <= runs && DUE.allRight(); seed++) {
            ModelTest run = new ModelTest(seed);
            run.go(seed);
            if (!DUE.allRight()) {
                System.out.println("in run " + seed + ":" + run.told);
            }
        }
        DUE.end();
    }

    private void go(int seed) {
        // a part of the runs begins with nothing, the rest with a sale worth looking at
        if (seed % 8 != 0) {
            stage(seed % 8 == 1);
        }
        for (int i = 0; i < CALLS && DUE.allRight(); i++) {
            any();
        }
    }

    private int upTo(int most) {
        return random.nextInt(most + 1);
    }

    /** Mostly a number that fits, at times one at its ends or beyond them. */
    private int about(int least, int most) {
        switch (upTo(24)) {
            case 0: return least - 1;
            case 1: return most + 1;
            case 2: return random.nextInt();
            case 3: return least;
            case 4: return most;
            default: return least > most ? least : least + upTo(most - least);
        }
    }

    private void stage(boolean large) {
        set(0, large ? 12 : upTo(8));
        set(1, large ? 5 : 1 + upTo(3));
        set(2, random.nextBoolean() ? 0 : upTo(60));
        int step = 4 + upTo(20);
        int v = 99 - upTo(30);
        for (int i = 0; i < 5 && v > 0; i++) {
            price(v);
            v -= 1 + upTo(step);
        }
        for (int i = upTo(3); i > 0; i--) {
            sort(upTo(4), 20 + upTo(79), upTo(2) == 0 ? 0 : upTo(30));
        }
        for (int i = 0; i < 6; i++) {
            plan(i, upTo(4));
        }
        sayRule();
        rule();
    }

    private void any() {
        switch (upTo(33)) {
            case 0: set(0, about(0, 12)); break;
            case 1: set(1, about(1, 6)); break;
            case 2: set(2, about(0, 99)); break;
            case 3: set(about(0, 2), about(0, 6)); break;
            case 4: price(about(1, 99)); break;
            case 5: sort(about(0, 4), about(0, 99), about(0, 30)); break;
            case 6: change(about(0, 2), 0, about(0, 4)); break;
            case 7: change(about(0, 2), 1, about(0, 99)); break;
            case 8: change(about(0, 2), 2, about(0, 30)); break;
            case 9: change(about(0, 2), 3, upTo(3) == 0 ? about(-1, 30) : about(0, 6)); break;
            case 10: change(about(0, 2), about(0, 3), about(0, 30)); break;
            case 11: worth(about(0, 2), about(0, 5)); break;
            case 12: case 13: plan(about(0, 5), about(0, 4)); break;
            case 14: brings(about(0, 1)); break;
            case 15: left(about(0, 12), about(0, 1)); break;
            case 16: best(about(0, 5), about(1, 12)); break;
            case 17: state(about(0, 6), about(0, 12), about(0, 1)); break;
            case 18: dip(upTo(2) == 0 ? about(-1, 20) : upTo(3) - 1); break;
            case 19: kept(about(0, 2), about(0, 5)); break;
            case 20: case 21: keeps(about(0, 4), about(0, 1)); break;
            case 22: rather(); break;
            case 23: picks(about(0, 2), about(0, 5)); break;
            case 24: made(about(0, 99)); break;
            case 25: say(about(33, 126)); break;
            case 26: if (upTo(2) == 0) { wipe(); } else { sayRule(); } break;
            case 27: fault(); break;
            case 28: rule(); break;
            case 29: asks(about(0, 5), about(0, 12)); break;
            case 30: boy(about(0, 1)); break;
            case 31: worst(); break;
            case 32: edge(about(0, 2)); break;
            default: told(about(0, 33)); break;
        }
    }

    private void sayRule() {
        wipe();
        StringBuilder text = new StringBuilder();
        for (int i = upTo(6); i > 0; i--) {
            text.append("ld".charAt(upTo(1))).append("<>=".charAt(upTo(2))).append(upTo(13));
            text.append(':').append(upTo(4)).append(';');
        }
        text.append(upTo(4));
        if (upTo(3) == 0) {
            int place = upTo(text.length() - 1);
            text.setCharAt(place, "ld<>=:;0459x".charAt(upTo(11)));
        }
        if (upTo(6) == 0) {
            text.setLength(upTo(text.length()));
        }
        for (int i = 0; i < text.length(); i++) {
            say(text.charAt(i));
            if (upTo(9) == 0) {
                fault();
            }
        }
    }

    private void same(String call, long got, long want) {
        told.append(' ').append(call);
        DUE.is(call, got, want);
    }

    private void set(int a, int b) {
        same("set(" + a + ", " + b + ")", x.set(a, b), y.set(a, b));
    }

    private void price(int a) {
        same("price(" + a + ")", x.price(a), y.price(a));
    }

    private void sort(int a, int b, int c) {
        same("sort(" + a + ", " + b + ", " + c + ")", x.sort(a, b, c), y.sort(a, b, c));
    }

    private void change(int a, int b, int c) {
        same("change(" + a + ", " + b + ", " + c + ")", x.change(a, b, c), y.change(a, b, c));
    }

    private void worth(int a, int b) {
        same("worth(" + a + ", " + b + ")", x.worth(a, b), y.worth(a, b));
    }

    private void plan(int a, int b) {
        same("plan(" + a + ", " + b + ")", x.plan(a, b), y.plan(a, b));
    }

    private void brings(int a) {
        same("brings(" + a + ")", x.brings(a), y.brings(a));
    }

    private void left(int a, int b) {
        same("left(" + a + ", " + b + ")", x.left(a, b), y.left(a, b));
    }

    private void best(int a, int b) {
        same("best(" + a + ", " + b + ")", x.best(a, b), y.best(a, b));
    }

    private void state(int a, int b, int c) {
        same("state(" + a + ", " + b + ", " + c + ")", x.state(a, b, c), y.state(a, b, c));
    }

    private void dip(int a) {
        same("dip(" + a + ")", x.dip(a), y.dip(a));
    }

    private void kept(int a, int b) {
        same("kept(" + a + ", " + b + ")", x.kept(a, b), y.kept(a, b));
    }

    private void keeps(int a, int b) {
        same("keeps(" + a + ", " + b + ")", x.keeps(a, b), y.keeps(a, b));
    }

    private void rather() {
        same("rather()", x.rather(), y.rather());
    }

    private void picks(int a, int b) {
        same("picks(" + a + ", " + b + ")", x.picks(a, b), y.picks(a, b));
    }

    private void made(int a) {
        same("made(" + a + ")", x.made(a), y.made(a));
    }

    private void say(int a) {
        same("say(" + a + ")", x.say(a), y.say(a));
    }

    private void wipe() {
        same("wipe()", x.wipe(), y.wipe());
    }

    private void fault() {
        same("fault()", x.fault(), y.fault());
    }

    private void rule() {
        same("rule()", x.rule(), y.rule());
    }

    private void asks(int a, int b) {
        same("asks(" + a + ", " + b + ")", x.asks(a, b), y.asks(a, b));
    }

    private void boy(int a) {
        same("boy(" + a + ")", x.boy(a), y.boy(a));
    }

    private void worst() {
        same("worst()", x.worst(), y.worst());
    }

    private void edge(int a) {
        same("edge(" + a + ")", x.edge(a), y.edge(a));
    }

    private void told(int a) {
        same("told(" + a + ")", x.told(a), y.told(a));
    }
}
