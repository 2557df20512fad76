import java.util.ArrayList;
import java.util.List;

/** The document's words once more, by lists and by trying everything, for comparing. */
final class PlainModel {
    static final int UNKNOWN = -1, OUTSIDE = -2, STATE = -3, FULL = -4, NO = -5, NONE = -6;

    record Sight(int events, int person, boolean stood) { }

    record Kept(int length, int law, List<Sight> sights) { }

    record Writing(int name, int event) { }

    /** A crossing of a name, or a look. Boys have names from 100 on. */
    record Event(boolean crosses, int name) { }

    int length = 9;
    int law = 0;
    String pad = "";
    List<Sight> sights = new ArrayList<>();
    final Kept[] images = new Kept[2];

    // ---- what stands

    static void crossOn(List<Writing> board, int name, int event, int length, int law) {
        if (law == 1) {
            board.removeIf(w -> w.name() == name);
        }
        board.add(0, new Writing(name, event));
        while (board.size() > length) {
            board.remove(board.size() - 1);
        }
        int middle = (length + 1) / 2;
        if (law == 2 && board.size() >= middle) {
            board.remove(middle - 1);
        }
    }

    /** The boards behind 0, 1, 2 .. events. */
    static List<List<Writing>> boards(List<Event> day, int length, int law) {
        List<List<Writing>> all = new ArrayList<>();
        List<Writing> now = new ArrayList<>();
        all.add(new ArrayList<>(now));
        for (int e = 0; e < day.size(); e++) {
            if (day.get(e).crosses()) {
                crossOn(now, day.get(e).name(), e, length, law);
            }
            all.add(new ArrayList<>(now));
        }
        return all;
    }

    static List<Event> events(String text) {
        List<Event> day = new ArrayList<>();
        for (char c : text.toCharArray()) {
            day.add(c >= 'a' ? new Event(false, c - 'a') : new Event(true, c - 'A'));
        }
        return day;
    }

    static boolean has(List<Writing> board, int name) {
        return board.stream().anyMatch(w -> w.name() == name);
    }

    static int bits(List<Writing> board) {
        int bits = 0;
        for (Writing w : board) {
            if (w.name() < 8) {
                bits |= 1 << w.name();
            }
        }
        return bits;
    }

    static List<Integer> missedOf(List<Event> day, int length, int law) {
        List<List<Writing>> boards = boards(day, length, law);
        List<Integer> missed = new ArrayList<>();
        for (int e = 0; e < day.size(); e++) {
            if (!day.get(e).crosses()) {
                continue;
            }
            boolean read = false;
            for (int f = e + 1; f < day.size(); f++) {
                int own = e;
                if (!day.get(f).crosses() && boards.get(f).stream().anyMatch(w -> w.event() == own)) {
                    read = true;
                }
            }
            if (!read) {
                missed.add(e);
            }
        }
        return missed;
    }

    int seenIn(List<Event> day, int person) {
        List<List<Writing>> boards = boards(day, length, law);
        int bits = 0;
        for (int e = 0; e < day.size(); e++) {
            if (!day.get(e).crosses() && has(boards.get(e), person)) {
                bits |= 1 << day.get(e).name();
            }
        }
        return bits;
    }

    // ---- refusals

    static boolean person(int p) {
        return p >= 0 && p <= 7;
    }

    int fault() {
        int asked = 0;
        for (int n = 0; n < pad.length(); n++) {
            char c = pad.charAt(n);
            if (c == '?') {
                asked++;
            }
            if ("ABCDEFGHabcdefgh?".indexOf(c) < 0 || asked > 4 && c == '?') {
                return n;
            }
        }
        return NONE;
    }

    int refused(String part) {
        return fault() != NONE ? NO : part.indexOf('?') >= 0 ? STATE : 0;
    }

    // ---- the calls

    int set(int which, int v) {
        if (which == 0 && v >= 1 && v <= 9) {
            int before = length;
            length = v;
            return before;
        }
        if (which == 1 && v >= 0 && v <= 2) {
            int before = law;
            law = v;
            return before;
        }
        return OUTSIDE;
    }

    int say(int sign) {
        if (sign < 33 || sign > 126) {
            return OUTSIDE;
        }
        if (pad.length() == 40) {
            return FULL;
        }
        pad += (char) sign;
        return pad.length();
    }

    int wipe() {
        int before = pad.length();
        pad = "";
        return before;
    }

    int stands(int events, int place) {
        if (place < 0 || place > 8 || events < -1 || events > pad.length()) {
            return OUTSIDE;
        }
        String part = events == -1 ? pad : pad.substring(0, events);
        if (refused(part) != 0) {
            return refused(part);
        }
        List<List<Writing>> boards = boards(events(part), length, law);
        List<Writing> last = boards.get(part.length());
        return place < last.size() ? last.get(place).name() : NONE;
    }

    int read(int person) {
        if (!person(person)) {
            return UNKNOWN;
        }
        if (refused(pad) != 0) {
            return refused(pad);
        }
        int names = 0;
        for (int name = 0; name < 8; name++) {
            if ((seenIn(events(pad), name) >> person & 1) == 1) {
                names |= 1 << name;
            }
        }
        return names;
    }

    int seen(int person) {
        if (!person(person)) {
            return UNKNOWN;
        }
        return refused(pad) != 0 ? refused(pad) : seenIn(events(pad), person);
    }

    int missed(int i) {
        if (refused(pad) != 0) {
            return refused(pad);
        }
        List<Integer> missed = missedOf(events(pad), length, law);
        return i == -1 ? missed.size() : i >= 0 && i < missed.size() ? missed.get(i) : NONE;
    }

    int hired(int lookers, int person, int i) {
        if (!person(person)) {
            return UNKNOWN;
        }
        if (lookers < 1 || lookers > 255) {
            return OUTSIDE;
        }
        if (refused(pad) != 0) {
            return refused(pad);
        }
        List<Event> day = events(pad);
        int looks = 0;
        for (Event e : day) {
            if (!e.crosses() && (lookers >> e.name() & 1) == 1) {
                looks++;
            }
        }
        if (looks > 6) {
            return FULL;
        }
        for (int total = 0; total <= 9; total++) {
            int[] plan = new int[looks];
            if (anyPlan(day, lookers, person, plan, 0, total)) {
                return i == -1 ? total : i >= 0 && i < looks ? plan[i] : NONE;
            }
        }
        return NONE;
    }

    private boolean anyPlan(List<Event> day, int lookers, int person, int[] plan, int nth, int left) {
        if (nth == plan.length) {
            return left == 0 && planHides(day, lookers, person, plan);
        }
        for (int boys = 0; boys <= left; boys++) {
            plan[nth] = boys;
            if (anyPlan(day, lookers, person, plan, nth + 1, left - boys)) {
                return true;
            }
        }
        return false;
    }

    private boolean planHides(List<Event> day, int lookers, int person, int[] plan) {
        List<Event> with = new ArrayList<>();
        int nth = 0;
        int boy = 100;
        for (Event e : day) {
            if (!e.crosses() && (lookers >> e.name() & 1) == 1) {
                for (int n = 0; n < plan[nth]; n++) {
                    with.add(new Event(true, boy++));
                }
                nth++;
            }
            with.add(e);
        }
        return (seenIn(with, person) & lookers) == 0;
    }

    private int[] readersByPlace(int person) {
        int[] readers = new int[pad.length() + 1];
        for (int place = 0; place <= pad.length(); place++) {
            List<Event> with = events(pad);
            with.add(place, new Event(true, person));
            readers[place] = Integer.bitCount(seenIn(with, person));
        }
        return readers;
    }

    int cross(int person, int what) {
        if (!person(person)) {
            return UNKNOWN;
        }
        if (what < 0 || what > 1) {
            return OUTSIDE;
        }
        if (refused(pad) != 0) {
            return refused(pad);
        }
        if (pad.length() == 40) {
            return FULL;
        }
        return least(readersByPlace(person), what);
    }

    private static int least(int[] counts, int what) {
        int best = 0;
        for (int n = 0; n < counts.length; n++) {
            if (counts[n] < counts[best]) {
                best = n;
            }
        }
        return what == 0 ? best : counts[best];
    }

    int unseen(int person) {
        int refusal = cross(person, 0);
        if (refusal < 0) {
            return refusal;
        }
        int places = 0;
        for (int readers : readersByPlace(person)) {
            places += readers == 0 ? 1 : 0;
        }
        return places;
    }

    int look(int what) {
        if (what < 0 || what > 1) {
            return OUTSIDE;
        }
        if (refused(pad) != 0) {
            return refused(pad);
        }
        if (pad.length() == 40) {
            return FULL;
        }
        int[] left = new int[pad.length() + 1];
        for (int place = 0; place <= pad.length(); place++) {
            List<Event> with = events(pad);
            with.add(place, new Event(false, 0));
            left[place] = missedOf(with, length, law).size();
        }
        return least(left, what);
    }

    int looks(int what) {
        if (what < 0 || what > 1) {
            return OUTSIDE;
        }
        if (refused(pad) != 0) {
            return refused(pad);
        }
        List<Event> day = events(pad);
        int crossings = (int) day.stream().filter(Event::crosses).count();
        if (crossings > 12) {
            return FULL;
        }
        int best = NONE;
        for (int bits = 0; bits < 1 << crossings; bits++) {
            if (best != NONE && Integer.bitCount(bits) >= Integer.bitCount(best)) {
                continue;
            }
            if (missedOf(withLooks(day, bits), length, law).isEmpty()) {
                best = bits;
            }
        }
        return best == NONE ? NONE : what == 0 ? Integer.bitCount(best) : best;
    }

    private static List<Event> withLooks(List<Event> day, int bits) {
        List<Event> with = new ArrayList<>();
        int nth = 0;
        for (Event e : day) {
            with.add(e);
            if (e.crosses()) {
                if ((bits >> nth & 1) == 1) {
                    with.add(new Event(false, 0));
                }
                nth++;
            }
        }
        return with;
    }

    int best(int what) {
        if (what < 0 || what > 1) {
            return OUTSIDE;
        }
        if (refused(pad) != 0) {
            return refused(pad);
        }
        int[] left = new int[9];
        for (int n = 0; n < 9; n++) {
            left[n] = missedOf(events(pad), n + 1, law).size();
        }
        return what == 0 ? least(left, 0) + 1 : least(left, 1);
    }

    int stood(int v) {
        if (v < 1 || v > 9) {
            return OUTSIDE;
        }
        if (refused(pad) != 0) {
            return refused(pad);
        }
        return bits(boards(events(pad), v, law).get(pad.length()));
    }

    int sight(int events, int person, boolean stood) {
        if (!person(person)) {
            return UNKNOWN;
        }
        if (events < 0 || events > 40) {
            return OUTSIDE;
        }
        if (sights.size() == 6) {
            return FULL;
        }
        sights.add(new Sight(events, person, stood));
        return sights.size();
    }

    int forget() {
        int before = sights.size();
        sights.clear();
        return before;
    }

    private List<String> fitting() {
        List<String> texts = new ArrayList<>();
        texts.add("");
        for (char c : pad.toCharArray()) {
            List<String> longer = new ArrayList<>();
            for (String text : texts) {
                for (char d : (c == '?' ? "ABCDEFGH" : "" + c).toCharArray()) {
                    longer.add(text + d);
                }
            }
            texts = longer;
        }
        texts.removeIf(text -> !sightsHold(text));
        return texts;
    }

    private boolean sightsHold(String text) {
        List<List<Writing>> boards = boards(events(text), length, law);
        for (Sight s : sights) {
            if (s.events() <= text.length() && has(boards.get(s.events()), s.person()) != s.stood()) {
                return false;
            }
        }
        return true;
    }

    private int placeOfAsked(int i) {
        int nth = 0;
        for (int n = 0; n < pad.length(); n++) {
            if (pad.charAt(n) == '?') {
                if (nth == i) {
                    return n;
                }
                nth++;
            }
        }
        return -1;
    }

    int fits(int i) {
        if (fault() != NONE) {
            return NO;
        }
        List<String> texts = fitting();
        if (i == -1) {
            return texts.size();
        }
        int place = placeOfAsked(i);
        return place < 0 || texts.isEmpty() ? NONE : texts.get(0).charAt(place) - 'A';
    }

    int could(int i) {
        if (fault() != NONE) {
            return NO;
        }
        int place = placeOfAsked(i);
        if (place < 0) {
            return NONE;
        }
        int bits = 0;
        for (String text : fitting()) {
            bits |= 1 << text.charAt(place) - 'A';
        }
        return bits;
    }

    int alibi(int person) {
        if (!person(person)) {
            return UNKNOWN;
        }
        if (fault() != NONE) {
            return NO;
        }
        int ways = 0;
        for (String text : fitting()) {
            ways += text.indexOf((char) ('A' + person)) >= 0 ? 1 : 0;
        }
        return ways;
    }

    int gone(int person) {
        if (!person(person)) {
            return UNKNOWN;
        }
        if (refused(pad) != 0) {
            return refused(pad);
        }
        List<Writing> board = boards(events(pad), length, law).get(pad.length());
        int boys = 0;
        while (has(board, person)) {
            crossOn(board, 100 + boys, -1, length, law);
            boys++;
        }
        return boys;
    }

    int out(int event) {
        if (refused(pad) != 0) {
            return refused(pad);
        }
        if (event < 0 || event >= pad.length() || pad.charAt(event) >= 'a') {
            return OUTSIDE;
        }
        List<List<Writing>> boards = boards(events(pad), length, law);
        for (int e = event; e < pad.length(); e++) {
            if (boards.get(e + 1).stream().noneMatch(w -> w.event() == event)) {
                return e;
            }
        }
        return NONE;
    }

    int drawn(int seed, int m, int person) {
        if (person != -1 && !person(person)) {
            return UNKNOWN;
        }
        if (seed < 0 || seed > 9999 || m < 0 || m > 99) {
            return OUTSIDE;
        }
        if (refused(pad) != 0) {
            return refused(pad);
        }
        List<Writing> board = boards(events(pad), length, law).get(pad.length());
        long x = seed;
        int times = 0;
        for (int n = 0; n < m; n++) {
            x = (75 * x + 74) % 65537;
            crossOn(board, (int) (x % 8), -1, length, law);
            times += has(board, person) ? 1 : 0;
        }
        return person == -1 ? Integer.bitCount(bits(board)) : times;
    }

    int image(int n) {
        if (n < 0 || n > 1) {
            return OUTSIDE;
        }
        images[n] = new Kept(length, law, new ArrayList<>(sights));
        return 1;
    }

    int restore(int n) {
        if (n < 0 || n > 1) {
            return OUTSIDE;
        }
        if (images[n] == null) {
            return STATE;
        }
        length = images[n].length();
        law = images[n].law();
        sights = new ArrayList<>(images[n].sights());
        return 1;
    }

    int told(int what) {
        return what == 0 ? pad.length() : what == 1 ? length : what == 2 ? law : what == 3 ? sights.size() : OUTSIDE;
    }
}
