import java.util.Random;

/** Runs of calls by a fixed seed, on an object and on the plain model side by side. */
public final class RandomRunsTest {
    private static final int RUNS = 640;
    /** What an object answers behind its 512th call is free; a kind of call below makes 41 at most. */
    private static final int CALLS = 512;
    private static final int MOST_AT_ONCE = 41;
    private static final String[] ALPHABETS = {
        "ABCDEFGHabcdefgh", "ABab", "ABCDEFGHABCDEFGHABCDEFGHah", "ABCc", "ABCDabcdABCD?", "ABCDEFGH??a", "ABCDEFGHabcdefgh?!i@I`",
    };

    private final Random random = new Random(9);
    private final Check check = new Check();
    private NineNames x;
    private PlainModel y;
    private String alphabet;
    private int calls;

    public static void main(String[] args) {
        RandomRunsTest test = new RandomRunsTest();
        for (int run = 0; run < RUNS; run++) {
            test.run(run);
        }
        test.check.end();
    }

    private void run(int run) {
        x = new NineNames();
        y = new PlainModel();
        alphabet = ALPHABETS[run % ALPHABETS.length];
        calls = 0;
        while (calls + MOST_AT_ONCE <= CALLS) {
            check.part("run " + run + ", day " + y.pad + ", long " + y.length + ", law " + y.law + ", sights " + y.sights);
            call();
        }
    }

    /** Mostly within the bounds, sometimes just beyond, now and then far off. */
    private int number(int least, int most) {
        int kind = random.nextInt(40);
        if (kind == 0) {
            return random.nextBoolean() ? Integer.MIN_VALUE : Integer.MAX_VALUE;
        }
        int span = kind < 4 ? 1 : 0;
        return least - span + random.nextInt(most - least + 1 + 2 * span);
    }

    private void due(String call, int got, int want) {
        check.due(call, got, want);
        calls++;
    }

    private void sayMore() {
        int more = random.nextInt(10) == 0 ? MOST_AT_ONCE : 1 + random.nextInt(8);
        for (int n = 0; n < more; n++) {
            int sign = random.nextInt(60) == 0 ? number(33, 126) : alphabet.charAt(random.nextInt(alphabet.length()));
            due("say(" + sign + ")", x.say(sign), y.say(sign));
        }
    }

    private void call() {
        int kind = random.nextInt(40);
        if (kind < 5) {
            sayMore();
        } else if (kind < 7) {
            due("wipe()", x.wipe(), y.wipe());
        } else if (kind < 13) {
            change(kind);
        } else if (kind < 27) {
            askDay(kind - 13);
        } else {
            askMore(kind - 27);
        }
    }

    private void change(int kind) {
        int a = number(0, 1);
        if (kind < 9) {
            int v = a == 1 ? number(0, 2) : number(1, 9);
            due("set(" + a + ", " + v + ")", x.set(a, v), y.set(a, v));
        } else if (kind < 11) {
            int events = random.nextBoolean() ? number(0, 40) : number(0, y.pad.length());
            int p = number(0, 7);
            boolean stood = random.nextInt(3) == 0;
            due("sight(" + events + ", " + p + ", " + stood + ")", x.sight(events, p, stood), y.sight(events, p, stood));
        } else if (kind == 11) {
            if (random.nextInt(3) == 0) {
                due("forget()", x.forget(), y.forget());
            }
        } else if (random.nextBoolean()) {
            due("image(" + a + ")", x.image(a), y.image(a));
        } else {
            due("restore(" + a + ")", x.restore(a), y.restore(a));
        }
    }

    private void askDay(int kind) {
        int p = number(0, 7);
        int i = number(-1, 12);
        int what = number(0, 1);
        int events = number(-1, y.pad.length());
        int bits = random.nextBoolean() ? number(1, 255) : 1 << random.nextInt(8);
        switch (kind) {
            case 0 -> due("fault()", x.fault(), y.fault());
            case 1 -> {
                int place = number(0, 8);
                due("stands(" + events + ", " + place + ")", x.stands(events, place), y.stands(events, place));
            }
            case 2 -> due("read(" + p + ")", x.read(p), y.read(p));
            case 3 -> due("seen(" + p + ")", x.seen(p), y.seen(p));
            case 4 -> due("missed(" + i + ")", x.missed(i), y.missed(i));
            case 5, 6 -> {
                int look = number(-1, 6);
                due("hired(" + bits + ", " + p + ", " + look + ")", x.hired(bits, p, look), y.hired(bits, p, look));
            }
            case 7 -> due("cross(" + p + ", " + what + ")", x.cross(p, what), y.cross(p, what));
            case 8 -> due("unseen(" + p + ")", x.unseen(p), y.unseen(p));
            case 9, 10 -> due("look(" + what + ")", x.look(what), y.look(what));
            case 11 -> due("looks(" + what + ")", x.looks(what), y.looks(what));
            case 12 -> due("best(" + what + ")", x.best(what), y.best(what));
            default -> {
                int v = number(1, 9);
                due("stood(" + v + ")", x.stood(v), y.stood(v));
            }
        }
    }

    private void askMore(int kind) {
        int p = number(0, 7);
        int i = number(-1, 4);
        switch (kind) {
            case 0, 1 -> due("fits(" + i + ")", x.fits(i), y.fits(i));
            case 2, 3 -> due("could(" + i + ")", x.could(i), y.could(i));
            case 4, 5 -> due("alibi(" + p + ")", x.alibi(p), y.alibi(p));
            case 6, 7 -> due("gone(" + p + ")", x.gone(p), y.gone(p));
            case 8, 9 -> {
                int event = number(0, Math.max(0, y.pad.length() - 1));
                due("out(" + event + ")", x.out(event), y.out(event));
            }
            case 10, 11 -> {
                int seed = number(0, 9999);
                int m = number(0, 99);
                int who = number(-1, 7);
                due("drawn(" + seed + ", " + m + ", " + who + ")", x.drawn(seed, m, who), y.drawn(seed, m, who));
            }
            default -> {
                int what = number(0, 3);
                due("told(" + what + ")", x.told(what), y.told(what));
            }
        }
    }
}
