/** All calls with numbers at and far beyond every bound, on days of every kind, side by side with the plain model. */
public final class EdgeGridTest {
    private static final int[] NUMBERS = {
        Integer.MIN_VALUE, Integer.MIN_VALUE + 1, -65536, -257, -256, -33, -32, -10, -3, -2, -1, 0, 1, 2, 3, 4, 5, 6, 7, 8, 9, 10,
        12, 13, 31, 32, 33, 39, 40, 41, 63, 64, 65, 99, 100, 126, 127, 128, 255, 256, 257, 9999, 10000, 65536, 65537,
        Integer.MAX_VALUE - 1, Integer.MAX_VALUE,
    };
    private static final String[] DAYS = {
        "", "A", "a", "Aa", "aA", "HhAaHh", "ABCDEFGHAaB", "ABCDEFGHABCD", "ABCDEFGHABCDE", "AaAaAaAaAaAa", "abababa",
        "ABCDEFGHabABCDEFGHabABCDEFGHabABCDEFGHa", "AAAAAAAAAAAAAAAAAAAAAAAAAAAAAAAAAAAAAAAA", "aaaaaaaaaaaaaaaaaaaaaaaaaaaaaaaaaaaaaaaH",
        "?", "A?Bb?", "????", "?????", "!", "A!", "?A!", "I", "i", "@", "`",
    };
    /** A call of an object is not answered for sure behind the 512th. */
    private static final int CALLS = 400;

    private final Check check = new Check();
    private int length;
    private int law;
    private String day;
    private NineNames x;
    private PlainModel y;
    private int calls;

    public static void main(String[] args) {
        EdgeGridTest test = new EdgeGridTest();
        for (String day : DAYS) {
            for (int length : new int[] {1, 2, 5, 9}) {
                for (int law = 0; law <= 2; law++) {
                    test.grid(length, law, day);
                }
            }
        }
        test.check.end();
    }

    private void grid(int newLength, int newLaw, String newDay) {
        length = newLength;
        law = newLaw;
        day = newDay;
        check.part("day " + day + ", long " + length + ", law " + law);
        begin();
        for (int a : NUMBERS) {
            oneNumber(a);
            for (int b : new int[] {Integer.MIN_VALUE, -2, -1, 0, 1, 7, 8, 9, Integer.MAX_VALUE}) {
                twoNumbers(a, b);
            }
        }
    }

    private void begin() {
        x = Check.object(length, law, day);
        y = new PlainModel();
        y.set(0, length);
        y.set(1, law);
        for (char sign : day.toCharArray()) {
            y.say(sign);
        }
        x.sight(1, 0, true);
        y.sight(1, 0, true);
        calls = 0;
    }

    private void due(String call, int got, int want) {
        check.due(call, got, want);
        calls++;
        if (calls >= CALLS) {
            begin();
        }
    }

    private void oneNumber(int a) {
        due("read(" + a + ")", x.read(a), y.read(a));
        due("seen(" + a + ")", x.seen(a), y.seen(a));
        due("missed(" + a + ")", x.missed(a), y.missed(a));
        due("unseen(" + a + ")", x.unseen(a), y.unseen(a));
        due("look(" + a + ")", x.look(a), y.look(a));
        due("looks(" + a + ")", x.looks(a), y.looks(a));
        due("best(" + a + ")", x.best(a), y.best(a));
        due("stood(" + a + ")", x.stood(a), y.stood(a));
        due("fits(" + a + ")", x.fits(a), y.fits(a));
        due("could(" + a + ")", x.could(a), y.could(a));
        due("alibi(" + a + ")", x.alibi(a), y.alibi(a));
        due("gone(" + a + ")", x.gone(a), y.gone(a));
        due("out(" + a + ")", x.out(a), y.out(a));
        due("image(" + a + ")", x.image(a), y.image(a));
        due("restore(" + a + ")", x.restore(a), y.restore(a));
        due("told(" + a + ")", x.told(a), y.told(a));
        if (a < 33 || a > 126 || day.length() == 40) {
            due("say(" + a + "), refused", x.say(a), y.say(a));
        }
    }

    private void twoNumbers(int a, int b) {
        due("stands(" + a + ", " + b + ")", x.stands(a, b), y.stands(a, b));
        due("stands(" + b + ", " + a + ")", x.stands(b, a), y.stands(b, a));
        due("hired(" + a + ", " + b + ", -1)", x.hired(a, b, -1), y.hired(a, b, -1));
        due("hired(255, " + b + ", " + a + ")", x.hired(255, b, a), y.hired(255, b, a));
        due("cross(" + b + ", " + a + ")", x.cross(b, a), y.cross(b, a));
        due("drawn(" + a + ", 7, " + b + ")", x.drawn(a, 7, b), y.drawn(a, 7, b));
        due("drawn(7, " + a + ", " + b + ")", x.drawn(7, a, b), y.drawn(7, a, b));
        if (b < 0 || b > 7 || a < 0 || a > 40) {
            due("sight(" + a + ", " + b + ", true), refused", x.sight(a, b, true), y.sight(a, b, true));
        }
        if (a < 0 || a > 1) {
            due("set(" + a + ", " + b + "), refused", x.set(a, b), y.set(a, b));
        }
    }
}
