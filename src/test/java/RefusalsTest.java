import java.util.ArrayList;
import java.util.List;

/**
 * "Calls that are refused answer, the first of these that fits: UNKNOWN, OUTSIDE, NO, STATE, FULL. They change
 * nothing." Every call with arguments that fit and that do not, on days by which each refusal fits alone and with
 * others; and behind each call its object is asked whether it still is as its twin, which did not get the call.
 */
public final class RefusalsTest {
    private static final int UNKNOWN = -1, OUTSIDE = -2, STATE = -3, FULL = -4, NO = -5, NONE = -6;

    /** Beyond the bounds of looks (12 crossings) and of hired (6 looks of theirs), but not 40 signs. */
    private static final String MANY = "ABCDEFGHABCDEaaaaaaa";
    private static final String FORTY = MANY + "b".repeat(20);
    private static final String[] DAYS = {
        "", "ABaCb", MANY, FORTY,
        "A?a", MANY + "?", FORTY.substring(0, 39) + "?", "????" + FORTY.substring(0, 36),
        "Aai", MANY + "!", FORTY.substring(0, 39) + "!", "?????",
        "A?ai", MANY + "?!", FORTY.substring(0, 38) + "?!", "!?" + FORTY.substring(0, 38),
    };

    /** When a day is too full for a call. */
    private enum Bound { NEVER, EVENTS, CROSSINGS, LOOKS }

    /** What a call's own arguments are. */
    private enum Fit { FITS, NOBODY, BEYOND, NOBODY_AND_BEYOND }

    private record Row(String text, Fit fit, Bound bound, Call call) { }

    private static final Check C = new Check();
    private static final List<Row> ROWS = new ArrayList<>();

    public static void main(String[] args) {
        C.part("\"the first of these that fits: UNKNOWN, OUTSIDE, NO, STATE, FULL\"");
        questionsOfPeople();
        questionsOfDays();
        for (Row row : ROWS) {
            for (String day : DAYS) {
                ask(row, day, refusal(row, day, true));
            }
        }
        questionsOfWaysNotTold();
        outComesLater();
        C.part("\"They change nothing\"");
        refusedChanges();
        C.end();
    }

    private static void row(String text, Fit fit, Bound bound, Call call) {
        ROWS.add(new Row(text, fit, bound, call));
    }

    // ---- the calls of a DAY without ?

    private static void questionsOfPeople() {
        row("read(0)", Fit.FITS, Bound.NEVER, x -> x.read(0));
        row("read(8)", Fit.NOBODY, Bound.NEVER, x -> x.read(8));
        row("seen(7)", Fit.FITS, Bound.NEVER, x -> x.seen(7));
        row("seen(-1)", Fit.NOBODY, Bound.NEVER, x -> x.seen(-1));
        row("hired(1, 0, -1)", Fit.FITS, Bound.LOOKS, x -> x.hired(1, 0, -1));
        row("hired(1, 0, 9)", Fit.FITS, Bound.LOOKS, x -> x.hired(1, 0, 9));
        row("hired(1, 8, 0)", Fit.NOBODY, Bound.LOOKS, x -> x.hired(1, 8, 0));
        row("hired(0, 0, 0)", Fit.BEYOND, Bound.LOOKS, x -> x.hired(0, 0, 0));
        row("hired(256, -1, 0)", Fit.NOBODY_AND_BEYOND, Bound.LOOKS, x -> x.hired(256, -1, 0));
        row("cross(0, 0)", Fit.FITS, Bound.EVENTS, x -> x.cross(0, 0));
        row("cross(7, 1)", Fit.FITS, Bound.EVENTS, x -> x.cross(7, 1));
        row("cross(8, 0)", Fit.NOBODY, Bound.EVENTS, x -> x.cross(8, 0));
        row("cross(0, 2)", Fit.BEYOND, Bound.EVENTS, x -> x.cross(0, 2));
        row("cross(-1, -1)", Fit.NOBODY_AND_BEYOND, Bound.EVENTS, x -> x.cross(-1, -1));
        row("unseen(0)", Fit.FITS, Bound.EVENTS, x -> x.unseen(0));
        row("unseen(8)", Fit.NOBODY, Bound.EVENTS, x -> x.unseen(8));
        row("gone(0)", Fit.FITS, Bound.NEVER, x -> x.gone(0));
        row("gone(-1)", Fit.NOBODY, Bound.NEVER, x -> x.gone(-1));
        row("drawn(0, 99, -1)", Fit.FITS, Bound.NEVER, x -> x.drawn(0, 99, -1));
        row("drawn(9999, 0, 7)", Fit.FITS, Bound.NEVER, x -> x.drawn(9999, 0, 7));
        row("drawn(0, 0, 8)", Fit.NOBODY, Bound.NEVER, x -> x.drawn(0, 0, 8));
        row("drawn(10000, 0, 0)", Fit.BEYOND, Bound.NEVER, x -> x.drawn(10000, 0, 0));
        row("drawn(0, 100, 0)", Fit.BEYOND, Bound.NEVER, x -> x.drawn(0, 100, 0));
        row("drawn(-1, -1, -2)", Fit.NOBODY_AND_BEYOND, Bound.NEVER, x -> x.drawn(-1, -1, -2));
    }

    private static void questionsOfDays() {
        row("stands(-1, 0)", Fit.FITS, Bound.NEVER, x -> x.stands(-1, 0));
        row("stands(-1, 9)", Fit.BEYOND, Bound.NEVER, x -> x.stands(-1, 9));
        row("stands(-2, 0)", Fit.BEYOND, Bound.NEVER, x -> x.stands(-2, 0));
        row("stands(41, -1)", Fit.BEYOND, Bound.NEVER, x -> x.stands(41, -1));
        row("missed(-1)", Fit.FITS, Bound.NEVER, x -> x.missed(-1));
        row("missed(-2)", Fit.FITS, Bound.NEVER, x -> x.missed(-2));
        row("missed(40)", Fit.FITS, Bound.NEVER, x -> x.missed(40));
        row("look(0)", Fit.FITS, Bound.EVENTS, x -> x.look(0));
        row("look(1)", Fit.FITS, Bound.EVENTS, x -> x.look(1));
        row("look(2)", Fit.BEYOND, Bound.EVENTS, x -> x.look(2));
        row("looks(0)", Fit.FITS, Bound.CROSSINGS, x -> x.looks(0));
        row("looks(1)", Fit.FITS, Bound.CROSSINGS, x -> x.looks(1));
        row("looks(-1)", Fit.BEYOND, Bound.CROSSINGS, x -> x.looks(-1));
        row("best(0)", Fit.FITS, Bound.NEVER, x -> x.best(0));
        row("best(1)", Fit.FITS, Bound.NEVER, x -> x.best(1));
        row("best(2)", Fit.BEYOND, Bound.NEVER, x -> x.best(2));
        row("stood(9)", Fit.FITS, Bound.NEVER, x -> x.stood(9));
        row("stood(10)", Fit.BEYOND, Bound.NEVER, x -> x.stood(10));
    }

    private static int refusal(Row row, String day, boolean refusesAsked) {
        if (row.fit() == Fit.NOBODY || row.fit() == Fit.NOBODY_AND_BEYOND) {
            return UNKNOWN;
        }
        if (row.fit() == Fit.BEYOND) {
            return OUTSIDE;
        }
        if (isWrong(day)) {
            return NO;
        }
        if (refusesAsked && day.contains("?")) {
            return STATE;
        }
        return isFull(row.bound(), day) ? FULL : 0;
    }

    private static boolean isWrong(String day) {
        return day.contains("i") || day.contains("!") || day.contains("?????");
    }

    private static boolean isFull(Bound bound, String day) {
        long crossings = day.chars().filter(Character::isUpperCase).count();
        long looks = day.chars().filter(sign -> sign == 'a').count();
        return switch (bound) {
            case NEVER -> false;
            case EVENTS -> day.length() == 40;
            case CROSSINGS -> crossings > 12;
            case LOOKS -> looks > 6;
        };
    }

    /** A refusal of 0: the call is answered. */
    private static void ask(Row row, String day, int refusal) {
        NineNames x = object(day);
        int answer = row.call().on(x);
        String text = row.text() + " on \"" + day + "\"";
        if (refusal == 0) {
            C.due(text + " is answered, by " + answer, answer >= 0 || answer == NONE);
        } else {
            C.due(text, answer, refusal);
        }
        C.due(text + " changes nothing", Twin.same(x, object(day)));
    }

    /** An object with all that a call could change: a DAY, some SIGHTS, an IMAGE of others. */
    private static NineNames object(String day) {
        NineNames x = Check.object(3, 1, "");
        x.sight(1, 2, true);
        x.image(1);
        x.set(0, 8);
        x.set(1, 0);
        x.forget();
        x.sight(2, 1, false);
        x.sight(4, 5, true);
        Check.say(x, day);
        return x;
    }

    // ---- the calls of a DAY with ?, and out

    private static void questionsOfWaysNotTold() {
        ROWS.clear();
        row("fits(-1)", Fit.FITS, Bound.NEVER, x -> x.fits(-1));
        row("fits(0)", Fit.FITS, Bound.NEVER, x -> x.fits(0));
        row("fits(9)", Fit.FITS, Bound.NEVER, x -> x.fits(9));
        row("could(0)", Fit.FITS, Bound.NEVER, x -> x.could(0));
        row("could(-1)", Fit.FITS, Bound.NEVER, x -> x.could(-1));
        row("alibi(7)", Fit.FITS, Bound.NEVER, x -> x.alibi(7));
        row("alibi(8)", Fit.NOBODY, Bound.NEVER, x -> x.alibi(8));
        row("stands(0, 0)", Fit.FITS, Bound.NEVER, x -> x.stands(0, 0));
        for (Row row : ROWS) {
            for (String day : DAYS) {
                ask(row, day, refusal(row, day, false));
            }
        }
        ROWS.clear();
        row("fault()", Fit.FITS, Bound.NEVER, x -> x.fault());
        row("told(0)", Fit.FITS, Bound.NEVER, x -> x.told(0));
        row("told(4)", Fit.BEYOND, Bound.NEVER, x -> x.told(4));
        row("told(-1)", Fit.BEYOND, Bound.NEVER, x -> x.told(-1));
        for (Row row : ROWS) {
            for (String day : DAYS) {
                ask(row, day, row.fit() == Fit.BEYOND ? OUTSIDE : 0);
            }
        }
    }

    private static void outComesLater() {
        C.part("23 \"NO, STATE (ahead of OUTSIDE)\"");
        for (int event : new int[] {Integer.MIN_VALUE, -1, 0, 2, 13, 40, Integer.MAX_VALUE}) {
            Row row = new Row("out(" + event + ")", Fit.FITS, Bound.NEVER, x -> x.out(event));
            for (String day : DAYS) {
                boolean crosses = event >= 0 && event < day.length() && Character.isUpperCase(day.charAt(event));
                int refusal = refusal(row, day, true);
                ask(row, day, refusal == 0 && !crosses ? OUTSIDE : refusal);
            }
        }
    }

    // ---- the calls that change something, if they are not refused

    private static void refusedChanges() {
        for (String day : DAYS) {
            changeRefused("set(0, 0)", day, OUTSIDE, x -> x.set(0, 0));
            changeRefused("set(0, 10)", day, OUTSIDE, x -> x.set(0, 10));
            changeRefused("set(1, -1)", day, OUTSIDE, x -> x.set(1, -1));
            changeRefused("set(1, 3)", day, OUTSIDE, x -> x.set(1, 3));
            changeRefused("set(-1, 1)", day, OUTSIDE, x -> x.set(-1, 1));
            changeRefused("set(2, 1)", day, OUTSIDE, x -> x.set(2, 1));
            changeRefused("say(32)", day, OUTSIDE, x -> x.say(32));
            changeRefused("say(127)", day, OUTSIDE, x -> x.say(127));
            changeRefused("sight(-1, 0, true)", day, OUTSIDE, x -> x.sight(-1, 0, true));
            changeRefused("sight(41, 0, true)", day, OUTSIDE, x -> x.sight(41, 0, true));
            changeRefused("sight(0, 8, true)", day, UNKNOWN, x -> x.sight(0, 8, true));
            changeRefused("sight(41, -1, true)", day, UNKNOWN, x -> x.sight(41, -1, true));
            changeRefused("image(-1)", day, OUTSIDE, x -> x.image(-1));
            changeRefused("image(2)", day, OUTSIDE, x -> x.image(2));
            changeRefused("restore(-1)", day, OUTSIDE, x -> x.restore(-1));
            changeRefused("restore(2)", day, OUTSIDE, x -> x.restore(2));
            changeRefused("restore(0)", day, STATE, x -> x.restore(0));
            fullRefused(day);
        }
    }

    private static void changeRefused(String text, String day, int refusal, Call call) {
        NineNames x = object(day);
        C.due(text + " on \"" + day + "\"", call.on(x), refusal);
        C.due(text + " on \"" + day + "\" changes nothing", Twin.same(x, object(day)));
    }

    private static void fullRefused(String day) {
        if (day.length() == 40) {
            changeRefused("say(65)", day, FULL, x -> x.say(65));
            changeRefused("say(33)", day, FULL, x -> x.say(33));
            changeRefused("say(63)", day, FULL, x -> x.say(63));
        }
        seventhRefused("sight(0, 0, true)", day, FULL, x -> x.sight(0, 0, true));
        seventhRefused("sight(40, 7, false)", day, FULL, x -> x.sight(40, 7, false));
        seventhRefused("sight(41, 0, true)", day, OUTSIDE, x -> x.sight(41, 0, true));
        seventhRefused("sight(0, 8, true)", day, UNKNOWN, x -> x.sight(0, 8, true));
    }

    private static void seventhRefused(String text, String day, int refusal, Call call) {
        NineNames x = withSixSights(day);
        C.due(text + ", a seventh, on \"" + day + "\"", call.on(x), refusal);
        C.due(text + ", a seventh, on \"" + day + "\" changes nothing", Twin.same(x, withSixSights(day)));
    }

    private static NineNames withSixSights(String day) {
        NineNames x = object(day);
        for (int person = 4; person < 8; person++) {
            x.sight(3, person, person == 5);
        }
        return x;
    }
}
