import java.util.Random;

/**
 * Answers that must agree: what the document says of a call is done to the DAY itself, and then the simpler calls
 * are asked. So the harder calls (hired, cross, look, looks, best, gone, drawn, fits ..) are held by stands,
 * stood, seen and missed, and not by a second program.
 */
public final class AgreementTest {
    private static final int ROUNDS = 400;
    private static final int NONE = -6;
    private static final String[] ALPHABETS = {"ABab", "ABCDabcd", "ABCDEFGHah", "AAABc", "ABCDEFGHabcdefgh"};

    private final Random random = new Random(27);
    private final Check check = new Check();
    private int length;
    private int law;
    private String day;

    public static void main(String[] args) {
        AgreementTest test = new AgreementTest();
        for (int round = 0; round < ROUNDS; round++) {
            test.round(round);
        }
        test.check.end();
    }

    private void round(int round) {
        length = 1 + random.nextInt(9);
        law = round % 3;
        day = text(ALPHABETS[random.nextInt(ALPHABETS.length)], random.nextInt(16));
        what();
        who();
        missed();
        outs();
        cross();
        look();
        looks();
        lengths();
        gone();
        hired();
        draws();
        ways();
    }

    // ---- texts and objects

    private String text(String alphabet, int signs) {
        StringBuilder text = new StringBuilder();
        for (int n = 0; n < signs; n++) {
            text.append(alphabet.charAt(random.nextInt(alphabet.length())));
        }
        return text.toString();
    }

    private void part(String sentence) {
        check.part("\"" + sentence + "\", day " + day + ", long " + length + ", law " + law);
    }

    private NineNames of(String text) {
        return Check.object(length, law, text);
    }

    private static String with(String text, int place, String more) {
        return text.substring(0, place) + more + text.substring(place);
    }

    private static char letter(int person) {
        return (char) ('A' + person);
    }

    private static boolean crosses(char sign) {
        return Character.isUpperCase(sign);
    }

    /** Whose names stand behind a text, by the places alone. */
    private int standing(String text) {
        NineNames x = of(text);
        int people = 0;
        for (int place = 0; place < 9; place++) {
            int who = x.stands(-1, place);
            people |= who == NONE ? 0 : 1 << who;
        }
        return people;
    }

    private boolean stands(String text, int person) {
        return (standing(text) >> person & 1) == 1;
    }

    // ---- 2

    private void what() {
        part("what stands at a place behind it; behind so many EVENTS");
        NineNames x = of(day);
        for (int events = 0; events <= day.length(); events++) {
            NineNames shorter = of(day.substring(0, events));
            for (int place = 0; place < 9; place++) {
                check.due("stands(" + events + ", " + place + ")", x.stands(events, place), shorter.stands(-1, place));
            }
        }
    }

    private void who() {
        part("READ of a PERSON: whose names it has read; SEEN: who has read its name");
        int[] read = new int[8];
        for (int event = 0; event < day.length(); event++) {
            if (!crosses(day.charAt(event))) {
                read[day.charAt(event) - 'a'] |= standing(day.substring(0, event));
            }
        }
        NineNames x = of(day);
        for (int person = 0; person < 8; person++) {
            int seen = 0;
            for (int looker = 0; looker < 8; looker++) {
                seen |= (read[looker] >> person & 1) << looker;
            }
            check.due("read(" + person + ")", x.read(person), read[person]);
            check.due("seen(" + person + ")", x.seen(person), seen);
        }
    }

    private void missed() {
        part("MISSED: crossings whose own writing stood there at no look behind them");
        NineNames x = of(day);
        int nth = 0;
        for (int event = 0; event < day.length(); event++) {
            if (crosses(day.charAt(event)) && !isLookedAt(event, x.out(event))) {
                check.due("missed(" + nth + ")", x.missed(nth), event);
                nth++;
            }
        }
        check.due("missed(-1)", x.missed(-1), nth);
        check.due("missed(" + nth + ")", x.missed(nth), NONE);
    }

    private boolean isLookedAt(int event, int out) {
        int end = out == NONE ? day.length() : out;
        for (int later = event + 1; later < end; later++) {
            if (!crosses(day.charAt(later))) {
                return true;
            }
        }
        return false;
    }

    /** On a day of different names a writing stands there as long as its name does. */
    private void outs() {
        part("OUT: the EVENT by which the writing went out");
        String people = "HCAFBEGD".substring(0, random.nextInt(9));
        String text = with(people, random.nextInt(people.length() + 1), "ab");
        NineNames x = of(text);
        for (int event = 0; event < text.length(); event++) {
            if (crosses(text.charAt(event))) {
                int out = event;
                while (out < text.length() && stands(text.substring(0, out + 1), text.charAt(event) - 'A')) {
                    out++;
                }
                check.due("out(" + event + ") of " + text, x.out(event), out == text.length() ? NONE : out);
            }
        }
    }

    // ---- 3

    private void cross() {
        part("the place in the DAY at which a PERSON who crosses once more is then read by fewest PEOPLE, the first");
        int person = random.nextInt(8);
        int best = 0;
        int fewest = 9;
        int unseen = 0;
        for (int place = 0; place <= day.length(); place++) {
            int readers = Integer.bitCount(of(with(day, place, "" + letter(person))).seen(person));
            if (readers < fewest) {
                best = place;
                fewest = readers;
            }
            unseen += readers == 0 ? 1 : 0;
        }
        NineNames x = of(day);
        check.due("cross(" + person + ", 0)", x.cross(person, 0), best);
        check.due("cross(" + person + ", 1)", x.cross(person, 1), fewest);
        check.due("unseen(" + person + ")", x.unseen(person), unseen);
    }

    private void look() {
        part("LOOK: the place at which one look more (of somebody) leaves fewest MISSED, the first; how many are left");
        for (String somebody : new String[] {"a", "h"}) {
            int best = 0;
            int fewest = 41;
            for (int place = 0; place <= day.length(); place++) {
                int left = of(with(day, place, somebody)).missed(-1);
                if (left < fewest) {
                    best = place;
                    fewest = left;
                }
            }
            check.due("look(0), a look of " + somebody, of(day).look(0), best);
            check.due("look(1), a look of " + somebody, of(day).look(1), fewest);
        }
    }

    private void looks() {
        part("LOOKS: the fewest looks more, each behind some crossing, by which none is MISSED; of several the least as bits");
        int crossings = (int) day.chars().filter(sign -> crosses((char) sign)).count();
        if (crossings > 8) {
            return;
        }
        int best = NONE;
        for (int bits = 0; bits < 1 << crossings; bits++) {
            boolean fewer = best == NONE || Integer.bitCount(bits) < Integer.bitCount(best);
            if (fewer && of(withLooks(bits)).missed(-1) == 0) {
                best = bits;
            }
        }
        check.due("looks(0)", of(day).looks(0), best == NONE ? NONE : Integer.bitCount(best));
        check.due("looks(1)", of(day).looks(1), best);
    }

    private String withLooks(int bits) {
        StringBuilder text = new StringBuilder();
        int nth = 0;
        for (char sign : day.toCharArray()) {
            text.append(sign);
            if (crosses(sign)) {
                text.append((bits >> nth & 1) == 1 ? "e" : "");
                nth++;
            }
        }
        return text.toString();
    }

    private void lengths() {
        part("BEST LONG: LONG (1 to 9) by which fewest are MISSED, the least; STOOD by v: if LONG were v");
        NineNames x = of(day);
        int before = length;
        int best = 0;
        int fewest = 41;
        for (int v = 1; v <= 9; v++) {
            length = v;
            int left = of(day).missed(-1);
            if (left < fewest) {
                best = v;
                fewest = left;
            }
            check.due("stood(" + v + ")", x.stood(v), standing(day));
        }
        length = before;
        check.due("best(0)", x.best(0), best);
        check.due("best(1)", x.best(1), fewest);
    }

    /** C to H are boys here, since only A and B cross: six of names that nobody else has. */
    private void gone() {
        part("GONE: how many boys must cross behind a DAY, at least, so that the name of a PERSON stands there no more");
        String text = text("ABABab", random.nextInt(12));
        int boys = of(text).gone(0);
        check.due("gone(0) of " + text + " is 0 if it does not stand there", (boys == 0) == !stands(text, 0));
        if (boys > 0 && boys <= 6) {
            check.due("gone(0) of " + text + ": so many are enough", !stands(text + "CDEFGH".substring(0, boys), 0));
            check.due("gone(0) of " + text + ": one fewer is not", stands(text + "CDEFGH".substring(0, boys - 1), 0));
        }
        if (boys > 6) {
            check.due("gone(0) of " + text + ": six are not enough", stands(text + "CDEFGH", 0));
        }
    }

    private void hired() {
        part("HIRED: the fewest boys in all by which none of the set reads the name of a PERSON; for each look of theirs");
        String text = text("AABab", random.nextInt(10));
        int lookers = 1 + random.nextInt(3);
        int looks = looksOf(text, lookers);
        NineNames x = of(text);
        int all = looks > 6 ? NONE : x.hired(lookers, 0, -1);
        if (looks > 6 || all == NONE || all > 6) {
            return;
        }
        int[] plan = new int[looks];
        int sum = 0;
        for (int i = 0; i < looks; i++) {
            plan[i] = x.hired(lookers, 0, i);
            sum += plan[i];
        }
        check.due("hired(" + lookers + ", 0, -1) of " + text + " is the sum of all", all, sum);
        check.due("hired(" + lookers + ", 0, " + looks + ") of " + text, x.hired(lookers, 0, looks), NONE);
        check.due("so many hide it: " + text, hides(text, lookers, plan));
        check.due("no other plan does by fewer, or by as many and fewer ahead: " + text, first(text, lookers, plan, all));
    }

    private static int looksOf(String text, int lookers) {
        int looks = 0;
        for (char sign : text.toCharArray()) {
            looks += isOneOf(sign, lookers) ? 1 : 0;
        }
        return looks;
    }

    private static boolean isOneOf(char sign, int lookers) {
        return !crosses(sign) && (lookers >> sign - 'a' & 1) == 1;
    }

    private boolean hides(String text, int lookers, int[] plan) {
        StringBuilder told = new StringBuilder();
        int nth = 0;
        int boy = 2;
        for (char sign : text.toCharArray()) {
            if (isOneOf(sign, lookers)) {
                for (int n = 0; n < plan[nth]; n++) {
                    told.append(letter(boy++));
                }
                nth++;
            }
            told.append(sign);
        }
        return (of(told.toString()).seen(0) & lookers) == 0;
    }

    /** Whether the first plan of up to so many boys that hides the name, in the document's order, is this one. */
    private boolean first(String text, int lookers, int[] plan, int all) {
        for (int boys = 0; boys <= all; boys++) {
            int[] found = new int[plan.length];
            if (find(text, lookers, found, 0, boys)) {
                return java.util.Arrays.equals(found, plan);
            }
        }
        return false;
    }

    private boolean find(String text, int lookers, int[] found, int nth, int left) {
        if (nth == found.length) {
            return left == 0 && hides(text, lookers, found);
        }
        for (int boys = 0; boys <= left; boys++) {
            found[nth] = boys;
            if (find(text, lookers, found, nth + 1, left - boys)) {
                return true;
            }
        }
        return false;
    }

    // ---- 4

    private void draws() {
        part("x becomes (75 x and 74) left over by 65537, x left over by 8 crosses");
        int seed = random.nextInt(10000);
        int m = random.nextInt(41 - day.length());
        int person = random.nextInt(8);
        String text = day;
        int times = 0;
        int x = seed;
        for (int n = 0; n < m; n++) {
            x = (75 * x + 74) % 65537;
            text += letter(x % 8);
            times += stands(text, person) ? 1 : 0;
        }
        check.due("drawn(" + seed + ", " + m + ", -1)", of(day).drawn(seed, m, -1), Integer.bitCount(standing(text)));
        check.due("drawn(" + seed + ", " + m + ", " + person + ")", of(day).drawn(seed, m, person), times);
    }

    private void ways() {
        part("FITS: ways to write a PERSON for each ? by which all SIGHTS hold");
        String text = with(day, random.nextInt(day.length() + 1), "?");
        text = with(text, random.nextInt(text.length() + 1), "?");
        int[] events = new int[1 + random.nextInt(3)];
        int[] people = new int[events.length];
        boolean[] stood = new boolean[events.length];
        NineNames x = of(text);
        for (int n = 0; n < events.length; n++) {
            events[n] = random.nextInt(text.length() + 3);
            people[n] = random.nextInt(8);
            stood[n] = random.nextInt(3) == 0;
            x.sight(events[n], people[n], stood[n]);
        }
        int ways = 0;
        int first = NONE;
        int[] could = new int[2];
        int[] alibi = new int[8];
        for (int way = 0; way < 64; way++) {
            String written = text.replaceFirst("\\?", "" + letter(way / 8)).replaceFirst("\\?", "" + letter(way % 8));
            if (holds(written, events, people, stood)) {
                ways++;
                first = first == NONE ? way : first;
                could[0] |= 1 << way / 8;
                could[1] |= 1 << way % 8;
                for (int person = 0; person < 8; person++) {
                    alibi[person] += written.indexOf(letter(person)) >= 0 ? 1 : 0;
                }
            }
        }
        check.due("fits(-1) of " + text, x.fits(-1), ways);
        check.due("fits(0) of " + text, x.fits(0), first == NONE ? NONE : first / 8);
        check.due("fits(1) of " + text, x.fits(1), first == NONE ? NONE : first % 8);
        check.due("could(0) of " + text, x.could(0), could[0]);
        check.due("could(1) of " + text, x.could(1), could[1]);
        for (int person = 0; person < 8; person++) {
            check.due("alibi(" + person + ") of " + text, x.alibi(person), alibi[person]);
        }
    }

    private boolean holds(String written, int[] events, int[] people, boolean[] stood) {
        for (int n = 0; n < events.length; n++) {
            boolean counts = events[n] <= written.length();
            if (counts && stands(written.substring(0, events[n]), people[n]) != stood[n]) {
                return false;
            }
        }
        return true;
    }
}
