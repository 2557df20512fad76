import java.util.ArrayList;
import java.util.List;

/** "An object is used for at most 512 calls after it has been made": so the 512th is answered as the first. */
public final class LastCallTest {
    private static final int CALLS = 512;
    private static final int STATE = -3, NONE = -6;

    /** A call, the DAY ahead of it, and what is due. */
    private record Row(String text, String day, int due, Call call) { }

    private static final Check C = new Check();
    private static final List<Row> ROWS = new ArrayList<>();

    public static void main(String[] args) {
        changes();
        questions();
        questionsOfWays();
        C.part("every call as the 512th");
        for (Row row : ROWS) {
            NineNames x = used(row.day(), CALLS - 1);
            C.due(row.text(), row.call().on(x), row.due());
        }
        C.due("there are rows for all 26 calls", ROWS.stream().map(row -> row.text().replaceAll("\\(.*", "")).distinct().count(), 26);
        apart();
        C.end();
    }

    private static void row(String text, String day, int due, Call call) {
        ROWS.add(new Row(text, day, due, call));
    }

    /** Two places, law 1, the DAY, a SIGHT (behind two EVENTS A stood there) and IMAGE 1, by so many calls in all. */
    private static NineNames used(String day, int calls) {
        NineNames x = new NineNames();
        int before = calls - 4 - day.length();
        int made = 0;
        for (; made + 42 <= before; made += 42) {
            for (int n = 0; n < 40; n++) {
                x.say('H');
            }
            x.missed(39);
            x.wipe();
        }
        for (; made < before; made++) {
            x.drawn(made, 99, 7);
        }
        x.set(0, 2);
        x.set(1, 1);
        Check.say(x, day);
        x.sight(2, 0, true);
        x.image(1);
        return x;
    }

    private static void changes() {
        row("set(0, 7)", "", 2, x -> x.set(0, 7));
        row("set(1, 0)", "", 1, x -> x.set(1, 0));
        row("say(65)", "AB", 3, x -> x.say(65));
        row("wipe()", "AB", 2, x -> x.wipe());
        row("sight(0, 0, false)", "AB", 2, x -> x.sight(0, 0, false));
        row("forget()", "AB", 1, x -> x.forget());
        row("image(0)", "AB", 1, x -> x.image(0));
        row("restore(1)", "AB", 1, x -> x.restore(1));
        row("restore(0)", "AB", STATE, x -> x.restore(0));
    }

    private static void questions() {
        row("fault()", "AB!", 2, x -> x.fault());
        row("stands(-1, 1)", "ABaC", 1, x -> x.stands(-1, 1));
        row("read(0)", "ABaC", 0b11, x -> x.read(0));
        row("seen(1)", "ABaC", 0b1, x -> x.seen(1));
        row("missed(0)", "ABaC", 3, x -> x.missed(0));
        row("hired(1, 1, 0)", "ABaC", 2, x -> x.hired(1, 1, 0));
        row("cross(1, 1)", "ABaC", 1, x -> x.cross(1, 1));
        row("unseen(3)", "ABaC", 3, x -> x.unseen(3));
        row("look(0)", "ABaC", 4, x -> x.look(0));
        row("looks(1)", "ABaC", 0b100, x -> x.looks(1));
        row("best(0)", "ABaC", 2, x -> x.best(0));
        row("stood(3)", "ABaC", 0b111, x -> x.stood(3));
        row("gone(1)", "ABaC", 1, x -> x.gone(1));
        row("out(0)", "ABaC", 3, x -> x.out(0));
        row("drawn(1, 3, 5)", "ABaC", 3, x -> x.drawn(1, 3, 5));
        row("told(3)", "ABaC", 1, x -> x.told(3));
    }

    private static void questionsOfWays() {
        row("fits(-1)", "B?a?", 8, x -> x.fits(-1));
        row("fits(0)", "B?a?", 0, x -> x.fits(0));
        row("fits(2)", "B?a?", NONE, x -> x.fits(2));
        row("could(0)", "B?a?", 0b1, x -> x.could(0));
        row("could(1)", "B?a?", 255, x -> x.could(1));
        row("alibi(2)", "B?a?", 1, x -> x.alibi(2));
    }

    /** Objects share nothing: each goes on as if it were alone. */
    private static void apart() {
        C.part("two objects side by side");
        NineNames one = new NineNames();
        NineNames other = new NineNames();
        one.set(0, 2);
        other.set(1, 1);
        Check.say(one, "A?");
        Check.say(other, "AABa");
        one.sight(2, 3, true);
        one.image(0);
        C.due("the one's ways", one.fits(-1), 1);
        C.due("the other's ways", other.fits(-1), 1);
        C.due("the other has no ?", other.could(0), NONE);
        C.due("the one's ?", one.could(0), 0b1000);
        C.due("the other's BOARD", other.stands(-1, 1), 0);
        C.due("the other's BOARD: once", other.stands(-1, 2), NONE);
        C.due("the other's crossings", other.missed(0), 0);
        C.due("the one's law", one.told(2), 0);
        C.due("the other's LONG", other.told(1), 9);
        C.due("the other's IMAGE", other.restore(0), STATE);
        C.due("the other's signs", other.wipe(), 4);
        C.due("the one's signs", one.told(0), 2);
        C.due("the other's SIGHTS", other.forget(), 0);
        C.due("the one's SIGHTS", one.told(3), 1);
    }
}
