/** The names of those who crossed a bridge last, and what can be told from them; ../shared/DOC.md says it all. */
public final class NineNames {
    public static final int UNKNOWN = -1, OUTSIDE = -2, STATE = -3, FULL = -4, NO = -5, NONE = -6;

    private static final int PEOPLE = 8;
    private static final int MOST_PLACES = 9;
    private static final int MOST_SIGNS = 40;
    private static final int MOST_ASKED = 4;
    private static final int MOST_SIGHTS = 6;
    private static final int MOST_BOYS = 9;
    private static final int MOST_HIRED_LOOKS = 6;
    private static final int MOST_MARKED_CROSSINGS = 12;
    private static final int IMAGES = 2;

    private static final int LAW_ONCE = 1;
    private static final int LAW_RUBBED = 2;

    /** One name for all boys: no boy crosses twice, so none is ever looked for on the board. */
    private static final int BOY = PEOPLE;
    private static final int NOBODY = -1;
    private static final int NO_EVENT = -1;
    private static final int NOWHERE = -1;
    private static final int ALL = -1;
    private static final int ACCEPTED = 0;

    private final Day day = new Day();
    private final Setting setting = new Setting();
    private final Setting[] images = new Setting[IMAGES];
    private final boolean[] kept = new boolean[IMAGES];
    private final Board board = new Board();
    private final Search search = new Search();
    private final int[] plan = new int[MOST_HIRED_LOOKS];
    private final long[] standing = new long[MOST_MARKED_CROSSINGS];

    public NineNames() {
        for (int n = 0; n < IMAGES; n++) {
            images[n] = new Setting();
        }
    }

    // ---- 1 boards, days

    public int set(int which, int v) {
        if (which == 0 && isLength(v)) {
            int before = setting.length;
            setting.length = v;
            search.fresh = false;
            return before;
        }
        if (which == 1 && v >= 0 && v <= LAW_RUBBED) {
            int before = setting.law;
            setting.law = v;
            search.fresh = false;
            return before;
        }
        return OUTSIDE;
    }

    public int say(int sign) {
        if (sign < 33 || sign > 126) {
            return OUTSIDE;
        }
        if (day.count >= MOST_SIGNS) {
            return FULL;
        }
        search.fresh = false;
        day.append(sign);
        return day.count;
    }

    public int wipe() {
        int before = day.count;
        day.count = 0;
        search.fresh = false;
        return before;
    }

    public int fault() {
        return day.firstFault();
    }

    // ---- 2 what stands, who has read

    public int stands(int events, int place) {
        if (place < 0 || place >= MOST_PLACES || events < ALL || events > day.count) {
            return OUTSIDE;
        }
        int told = events == ALL ? day.count : events;
        int refusal = refusalWithin(told);
        if (refusal != ACCEPTED) {
            return refusal;
        }
        runDay(told, setting.length);
        int name = board.nameAt(place);
        return name == NOBODY ? NONE : name;
    }

    public int read(int person) {
        int refusal = refusalFor(person);
        if (refusal != ACCEPTED) {
            return refusal;
        }
        int names = 0;
        board.begin(setting.length, setting.law);
        for (int event = 0; event < day.count; event++) {
            step(event);
            if (day.looker(event) == person) {
                names |= board.people();
            }
        }
        return names;
    }

    public int seen(int person) {
        int refusal = refusalFor(person);
        return refusal != ACCEPTED ? refusal : readers(person, NOWHERE);
    }

    public int missed(int i) {
        int refusal = refusalWithin(day.count);
        if (refusal != ACCEPTED) {
            return refusal;
        }
        long unread = unread(setting.length);
        return i == ALL ? Long.bitCount(unread) : nthEvent(unread, i);
    }

    // ---- 3 boys, looks

    public int hired(int lookers, int person, int i) {
        if (!isPerson(person)) {
            return UNKNOWN;
        }
        if (lookers < 1 || lookers >= 1 << PEOPLE) {
            return OUTSIDE;
        }
        int refusal = refusalWithin(day.count);
        if (refusal != ACCEPTED) {
            return refusal;
        }
        int count = day.looksOf(lookers);
        if (count > MOST_HIRED_LOOKS) {
            return FULL;
        }
        int boys = planBoys(lookers, person);
        if (boys > MOST_BOYS) {
            return NONE;
        }
        if (i == ALL) {
            return boys;
        }
        return i >= 0 && i < count && i < plan.length ? plan[i] : NONE;
    }

    public int cross(int person, int what) {
        int refusal = refusalOfCrossing(person, what);
        if (refusal != ACCEPTED) {
            return refusal;
        }
        int bestPlace = 0;
        int fewest = PEOPLE + 1;
        for (int place = 0; place <= day.count; place++) {
            int readers = Integer.bitCount(readers(person, place));
            if (readers < fewest) {
                fewest = readers;
                bestPlace = place;
            }
        }
        return what == 0 ? bestPlace : fewest;
    }

    public int unseen(int person) {
        int refusal = refusalOfCrossing(person, 0);
        if (refusal != ACCEPTED) {
            return refusal;
        }
        int places = 0;
        for (int place = 0; place <= day.count; place++) {
            if (readers(person, place) == 0) {
                places++;
            }
        }
        return places;
    }

    public int look(int what) {
        int refusal = refusalOfChoice(what);
        if (refusal != ACCEPTED) {
            return refusal;
        }
        if (day.count >= MOST_SIGNS) {
            return FULL;
        }
        long unread = unread(setting.length);
        int bestPlace = 0;
        int fewest = Long.bitCount(unread);
        board.begin(setting.length, setting.law);
        for (int event = 0; event < day.count; event++) {
            step(event);
            int left = Long.bitCount(unread & ~board.writtenEvents());
            if (left < fewest) {
                fewest = left;
                bestPlace = event + 1;
            }
        }
        return what == 0 ? bestPlace : fewest;
    }

    public int looks(int what) {
        int refusal = refusalOfChoice(what);
        if (refusal != ACCEPTED) {
            return refusal;
        }
        int crossings = day.crossings();
        if (crossings > MOST_MARKED_CROSSINGS) {
            return FULL;
        }
        markStanding();
        int bits = fewestLooks(unread(setting.length), crossings);
        if (bits == NONE) {
            return NONE;
        }
        return what == 0 ? Integer.bitCount(bits) : bits;
    }

    public int best(int what) {
        int refusal = refusalOfChoice(what);
        if (refusal != ACCEPTED) {
            return refusal;
        }
        int bestLength = 0;
        int fewest = MOST_SIGNS + 1;
        for (int length = 1; length <= MOST_PLACES; length++) {
            int left = Long.bitCount(unread(length));
            if (left < fewest) {
                fewest = left;
                bestLength = length;
            }
        }
        return what == 0 ? bestLength : fewest;
    }

    public int stood(int v) {
        if (!isLength(v)) {
            return OUTSIDE;
        }
        int refusal = refusalWithin(day.count);
        if (refusal != ACCEPTED) {
            return refusal;
        }
        runDay(day.count, v);
        return board.people();
    }

    // ---- 4 what is not told

    public int sight(int events, int person, boolean stood) {
        if (!isPerson(person)) {
            return UNKNOWN;
        }
        if (events < 0 || events > MOST_SIGNS) {
            return OUTSIDE;
        }
        if (setting.sights >= MOST_SIGHTS) {
            return FULL;
        }
        search.fresh = false;
        setting.addSight(events, person, stood);
        return setting.sights;
    }

    public int forget() {
        int before = setting.sights;
        setting.sights = 0;
        search.fresh = false;
        return before;
    }

    public int fits(int i) {
        if (day.firstFault() != NONE) {
            return NO;
        }
        search.refresh(day, setting);
        return i == ALL ? search.ways : search.firstWriting(i);
    }

    public int could(int i) {
        if (day.firstFault() != NONE) {
            return NO;
        }
        search.refresh(day, setting);
        return search.candidatesFor(i);
    }

    public int alibi(int person) {
        if (!isPerson(person)) {
            return UNKNOWN;
        }
        if (day.firstFault() != NONE) {
            return NO;
        }
        search.refresh(day, setting);
        return search.waysWith(person);
    }

    public int gone(int person) {
        int refusal = refusalFor(person);
        if (refusal != ACCEPTED) {
            return refusal;
        }
        runDay(day.count, setting.length);
        return board.pushOut(person);
    }

    public int out(int event) {
        int refusal = refusalWithin(day.count);
        if (refusal != ACCEPTED) {
            return refusal;
        }
        if (day.crosser(event) == NOBODY) {
            return OUTSIDE;
        }
        runDay(event, setting.length);
        for (int later = event; later < day.count; later++) {
            step(later);
            if ((board.writtenEvents() >>> event & 1) == 0) {
                return later;
            }
        }
        return NONE;
    }

    public int drawn(int seed, int m, int person) {
        if (person != ALL && !isPerson(person)) {
            return UNKNOWN;
        }
        if (seed < 0 || seed > 9999 || m < 0 || m > 99) {
            return OUTSIDE;
        }
        int refusal = refusalWithin(day.count);
        if (refusal != ACCEPTED) {
            return refusal;
        }
        runDay(day.count, setting.length);
        int times = drawCrossings(seed, m, person);
        return person == ALL ? Integer.bitCount(board.people()) : times;
    }

    public int image(int n) {
        if (n < 0 || n >= IMAGES) {
            return OUTSIDE;
        }
        images[n].copy(setting);
        kept[n] = true;
        return 1;
    }

    public int restore(int n) {
        if (n < 0 || n >= IMAGES) {
            return OUTSIDE;
        }
        if (!kept[n]) {
            return STATE;
        }
        setting.copy(images[n]);
        search.fresh = false;
        return 1;
    }

    public int told(int what) {
        switch (what) {
            case 0:
                return day.count;
            case 1:
                return setting.length;
            case 2:
                return setting.law;
            case 3:
                return setting.sights;
            default:
                return OUTSIDE;
        }
    }

    // ---- what is refused

    private static boolean isPerson(int person) {
        return person >= 0 && person < PEOPLE;
    }

    private static boolean isLength(int v) {
        return v >= 1 && v <= MOST_PLACES;
    }

    private int refusalWithin(int events) {
        if (day.firstFault() != NONE) {
            return NO;
        }
        return day.asksWithin(events) ? STATE : ACCEPTED;
    }

    private int refusalFor(int person) {
        return isPerson(person) ? refusalWithin(day.count) : UNKNOWN;
    }

    private int refusalOfChoice(int what) {
        return what == 0 || what == 1 ? refusalWithin(day.count) : OUTSIDE;
    }

    private int refusalOfCrossing(int person, int what) {
        if (!isPerson(person)) {
            return UNKNOWN;
        }
        int refusal = refusalOfChoice(what);
        if (refusal != ACCEPTED) {
            return refusal;
        }
        return day.count >= MOST_SIGNS ? FULL : ACCEPTED;
    }

    // ---- the day on the board

    private void step(int event) {
        int crosser = day.crosser(event);
        if (crosser != NOBODY) {
            board.write(crosser, event);
        }
    }

    private void runDay(int events, int length) {
        board.begin(length, setting.law);
        for (int event = 0; event < events; event++) {
            step(event);
        }
    }

    /** Who reads the person's name, as bits, if it crosses once more at the place (NOWHERE: it does not). */
    private int readers(int person, int place) {
        int readers = 0;
        board.begin(setting.length, setting.law);
        for (int event = 0; event < day.count; event++) {
            if (event == place) {
                board.write(person, NO_EVENT);
            }
            step(event);
            int looker = day.looker(event);
            if (looker != NOBODY && board.holds(person)) {
                readers |= 1 << looker;
            }
        }
        return readers;
    }

    /** The crossings that are missed on a board of this length, as bits by their events. */
    private long unread(int length) {
        long unread = 0;
        board.begin(length, setting.law);
        for (int event = 0; event < day.count; event++) {
            if (day.looker(event) != NOBODY) {
                unread &= ~board.writtenEvents();
            } else {
                step(event);
                unread |= 1L << event;
            }
        }
        return unread;
    }

    private int nthEvent(long events, int i) {
        int before = 0;
        for (int event = 0; event < day.count; event++) {
            if ((events >>> event & 1) == 1) {
                if (before == i) {
                    return event;
                }
                before++;
            }
        }
        return NONE;
    }

    /**
     * Fills the plan, and tells how many boys it takes. What each look needs does not hang on the boys
     * ahead of earlier looks: they push only writings that no look of the set may read in any case, and
     * a writing is pushed by those behind it alone. So the least for each look is the one least plan.
     */
    private int planBoys(int lookers, int person) {
        int boys = 0;
        int nth = 0;
        board.begin(setting.length, setting.law);
        for (int event = 0; event < day.count; event++) {
            step(event);
            if (day.looksOneOf(event, lookers) && nth < plan.length) {
                plan[nth] = board.pushOut(person);
                boys += plan[nth];
                nth++;
            }
        }
        return boys;
    }

    /** The least set of crossings, as bits, behind which looks leave nothing unread; NONE. */
    private int fewestLooks(long unread, int crossings) {
        int every = (1 << crossings) - 1;
        if ((unread & ~readBehind(every, crossings)) != 0) {
            return NONE;
        }
        int best = every;
        for (int bits = 0; bits < every; bits++) {
            boolean fewer = Integer.bitCount(bits) < Integer.bitCount(best);
            if (fewer && (unread & ~readBehind(bits, crossings)) == 0) {
                best = bits;
            }
        }
        return best;
    }

    private void markStanding() {
        int nth = 0;
        board.begin(setting.length, setting.law);
        for (int event = 0; event < day.count; event++) {
            step(event);
            if (day.crosser(event) != NOBODY && nth < standing.length) {
                standing[nth] = board.writtenEvents();
                nth++;
            }
        }
    }

    private long readBehind(int bits, int crossings) {
        long read = 0;
        for (int nth = 0; nth < crossings && nth < standing.length; nth++) {
            if ((bits >>> nth & 1) == 1) {
                read |= standing[nth];
            }
        }
        return read;
    }

    private int drawCrossings(int seed, int m, int person) {
        int times = 0;
        int x = seed;
        for (int n = 0; n < m; n++) {
            x = (75 * x + 74) % 65537;
            board.write(x % PEOPLE, NO_EVENT);
            if (board.holds(person)) {
                times++;
            }
        }
        return times;
    }

    /** All that an image keeps. */
    private static final class Setting {
        private int length = MOST_PLACES;
        private int law = 0;
        private int sights = 0;
        private final int[] sightEvents = new int[MOST_SIGHTS];
        private final int[] sightPeople = new int[MOST_SIGHTS];
        private final boolean[] sightStood = new boolean[MOST_SIGHTS];

        void addSight(int events, int person, boolean stood) {
            if (sights < MOST_SIGHTS) {
                sightEvents[sights] = events;
                sightPeople[sights] = person;
                sightStood[sights] = stood;
                sights++;
            }
        }

        void copy(Setting from) {
            length = from.length;
            law = from.law;
            sights = 0;
            for (int n = 0; n < from.sights && n < MOST_SIGHTS; n++) {
                addSight(from.sightEvents[n], from.sightPeople[n], from.sightStood[n]);
            }
        }
    }

    /** The pad, and what its signs mean. */
    private static final class Day {
        private final int[] signs = new int[MOST_SIGNS];
        private int count = 0;

        void append(int sign) {
            if (count < MOST_SIGNS) {
                signs[count] = sign;
                count++;
            }
        }

        int signAt(int event) {
            return event >= 0 && event < count && event < MOST_SIGNS ? signs[event] : 0;
        }

        int crosser(int event) {
            int person = signAt(event) - 'A';
            return isPerson(person) ? person : NOBODY;
        }

        int looker(int event) {
            int person = signAt(event) - 'a';
            return isPerson(person) ? person : NOBODY;
        }

        boolean isAsked(int event) {
            return signAt(event) == '?';
        }

        boolean looksOneOf(int event, int lookers) {
            int looker = looker(event);
            return looker != NOBODY && (lookers >>> looker & 1) == 1;
        }

        int firstFault() {
            int asked = 0;
            for (int event = 0; event < count; event++) {
                if (isAsked(event)) {
                    asked++;
                    if (asked > MOST_ASKED) {
                        return event;
                    }
                } else if (crosser(event) == NOBODY && looker(event) == NOBODY) {
                    return event;
                }
            }
            return NONE;
        }

        boolean asksWithin(int events) {
            for (int event = 0; event < events; event++) {
                if (isAsked(event)) {
                    return true;
                }
            }
            return false;
        }

        int looksOf(int lookers) {
            int looks = 0;
            for (int event = 0; event < count; event++) {
                if (looksOneOf(event, lookers)) {
                    looks++;
                }
            }
            return looks;
        }

        int crossings() {
            int crossings = 0;
            for (int event = 0; event < count; event++) {
                if (crosser(event) != NOBODY) {
                    crossings++;
                }
            }
            return crossings;
        }

        int toldCrossers() {
            int people = 0;
            for (int event = 0; event < count; event++) {
                int crosser = crosser(event);
                if (crosser != NOBODY) {
                    people |= 1 << crosser;
                }
            }
            return people;
        }
    }

    /**
     * The places over the gate. They are kept as digits of two numbers, the newest lowest: so a crossing
     * is a shift, a search keeps a board in one variable, and no call makes an object.
     */
    private static final class Board {
        private static final int NAME_BITS = 4;
        private static final int EVENT_BITS = 6;

        private static final int NAME_DIGIT = (1 << NAME_BITS) - 1;
        private static final int EVENT_DIGIT = (1 << EVENT_BITS) - 1;

        private int length = MOST_PLACES;
        private int law = 0;
        /** The bits of all places: what is shifted beyond them goes out. */
        private long nameRow = 0;
        private long eventRow = 0;
        /** A digit is 0 (nobody) or a name and 1. */
        private long names = 0;
        /** A digit is 0 (nobody, or no event of the day) or an event and 1. */
        private long writings = 0;

        void begin(int places, int by) {
            length = places;
            law = by;
            nameRow = (1L << NAME_BITS * places) - 1;
            eventRow = (1L << EVENT_BITS * places) - 1;
            names = 0;
            writings = 0;
        }

        void write(int name, int event) {
            if (law == LAW_ONCE && name != BOY) {
                removeAt(placeOf(name));
            }
            names = (names << NAME_BITS | name + 1) & nameRow;
            writings = (writings << EVENT_BITS | event + 1) & eventRow;
            if (law == LAW_RUBBED) {
                removeAt((length + 1) / 2 - 1);
            }
        }

        int nameAt(int place) {
            return (int) (names >>> NAME_BITS * place & NAME_DIGIT) - 1;
        }

        boolean holds(int name) {
            return placeOf(name) != NOWHERE;
        }

        /** The people whose names stand there, as bits. */
        int people() {
            int people = 0;
            for (int place = 0; place < length; place++) {
                int name = nameAt(place);
                if (isPerson(name)) {
                    people |= 1 << name;
                }
            }
            return people;
        }

        /** The crossings whose writings stand there, as bits by their events. */
        long writtenEvents() {
            long events = 0;
            for (int place = 0; place < length; place++) {
                int event = (int) (writings >>> EVENT_BITS * place & EVENT_DIGIT) - 1;
                if (event != NO_EVENT) {
                    events |= 1L << event;
                }
            }
            return events;
        }

        /** Lets boys cross until the name is gone; how many. As many boys as places are always enough. */
        int pushOut(int name) {
            int boys = 0;
            while (boys < length && holds(name)) {
                write(BOY, NO_EVENT);
                boys++;
            }
            return boys;
        }

        private int placeOf(int name) {
            if (name == NOBODY) {
                return NOWHERE;
            }
            long rest = names;
            for (int place = 0; place < length && rest != 0; place++) {
                if ((rest & NAME_DIGIT) == name + 1) {
                    return place;
                }
                rest >>>= NAME_BITS;
            }
            return NOWHERE;
        }

        private void removeAt(int place) {
            if (place != NOWHERE) {
                names = withoutDigit(names, NAME_BITS * place, NAME_BITS);
                writings = withoutDigit(writings, EVENT_BITS * place, EVENT_BITS);
            }
        }

        private static long withoutDigit(long row, int from, int width) {
            long newer = row & (1L << from) - 1;
            long older = row >>> (from + width);
            return older << from | newer;
        }
    }

    /** All ways to write people for the ? of a day by which the sights hold. */
    private static final class Search {
        private final Board board = new Board();

        /** Whether the answers still are those of the day and the setting. */
        private boolean fresh = false;
        private int ways = 0;
        private final int[] first = new int[MOST_ASKED];
        private final int[] candidates = new int[MOST_ASKED];
        private final int[] crossed = new int[PEOPLE];

        private int asked = 0;
        private final int[] askedAt = new int[MOST_ASKED];
        private final int[] written = new int[MOST_ASKED];
        /** By so many events, as bits: whose names the sights want there, and whose not. */
        private final int[] wanted = new int[MOST_SIGNS + 1];
        private final int[] unwanted = new int[MOST_SIGNS + 1];
        /** Behind these events no sight counts, so the board need not be followed further. */
        private int lastSight = 0;
        /** Who crosses at an event, if that is told and shows at the next sight. */
        private final int[] told = new int[MOST_SIGNS];

        /** There may be 4096 ways, so what was found is kept until something changes. */
        void refresh(Day day, Setting setting) {
            if (fresh) {
                return;
            }
            findAsked(day);
            spreadSights(day, setting);
            keepTold(day, setting);
            clearAnswers();
            board.begin(setting.length, setting.law);
            if (holdsBehind(0)) {
                follow(day, 0, 0, day.toldCrossers());
            }
            fresh = true;
        }

        int firstWriting(int i) {
            return ways > 0 && isAskedIndex(i) ? first[i] : NONE;
        }

        int candidatesFor(int i) {
            return isAskedIndex(i) ? candidates[i] : NONE;
        }

        int waysWith(int person) {
            return isPerson(person) ? crossed[person] : 0;
        }

        private boolean isAskedIndex(int i) {
            return i >= 0 && i < asked && i < MOST_ASKED;
        }

        private void findAsked(Day day) {
            asked = 0;
            for (int event = 0; event < day.count; event++) {
                if (day.isAsked(event) && asked < MOST_ASKED) {
                    askedAt[asked] = event;
                    asked++;
                }
            }
        }

        private void spreadSights(Day day, Setting setting) {
            for (int events = 0; events <= MOST_SIGNS; events++) {
                wanted[events] = 0;
                unwanted[events] = 0;
            }
            lastSight = 0;
            for (int n = 0; n < setting.sights && n < MOST_SIGHTS; n++) {
                int events = setting.sightEvents[n];
                if (events >= 0 && events <= day.count && events <= MOST_SIGNS) {
                    int[] side = setting.sightStood[n] ? wanted : unwanted;
                    side[events] |= 1 << setting.sightPeople[n];
                    lastSight = Math.max(lastSight, events);
                }
            }
        }

        /**
         * Most told crossings are pushed out ahead of the next sight whoever the ? are: by so many others as
         * there are places or, by law 1, by the same one. All ways are followed without these.
         */
        private void keepTold(Day day, Setting setting) {
            int later = 0;
            int laterPeople = 0;
            for (int event = MOST_SIGNS - 1; event >= 0; event--) {
                if (isSighted(event + 1)) {
                    later = 0;
                    laterPeople = 0;
                }
                told[event] = NOBODY;
                int crosser = day.crosser(event);
                if (crosser != NOBODY) {
                    boolean again = (laterPeople >>> crosser & 1) == 1;
                    boolean shows = setting.law == LAW_ONCE ? !again : later < setting.length;
                    told[event] = shows ? crosser : NOBODY;
                    later++;
                    laterPeople |= 1 << crosser;
                }
            }
        }

        private void clearAnswers() {
            ways = 0;
            for (int n = 0; n < MOST_ASKED; n++) {
                first[n] = 0;
                candidates[n] = 0;
            }
            for (int person = 0; person < PEOPLE; person++) {
                crossed[person] = 0;
            }
        }

        /** Goes on behind so many events, of which nth are ? that are written by now. */
        private void follow(Day day, int nth, int events, int crossers) {
            int stop = isAskedIndex(nth) ? askedAt[nth] : day.count;
            if (!walk(events, stop)) {
                return;
            }
            if (!isAskedIndex(nth)) {
                countWay(crossers);
                return;
            }
            long before = board.names;
            for (int person = 0; person < PEOPLE; person++) {
                board.names = before;
                board.write(person, NO_EVENT);
                written[nth] = person;
                if (holdsBehind(stop + 1)) {
                    follow(day, nth + 1, stop + 1, crossers | 1 << person);
                }
            }
        }

        private boolean walk(int from, int to) {
            for (int event = from; event < to && event < lastSight && event < MOST_SIGNS; event++) {
                if (told[event] != NOBODY) {
                    board.write(told[event], NO_EVENT);
                }
                if (!holdsBehind(event + 1)) {
                    return false;
                }
            }
            return true;
        }

        private boolean isSighted(int events) {
            return events >= 0 && events <= MOST_SIGNS && (wanted[events] | unwanted[events]) != 0;
        }

        private boolean holdsBehind(int events) {
            if (!isSighted(events)) {
                return true;
            }
            int people = board.people();
            return (wanted[events] & ~people) == 0 && (unwanted[events] & people) == 0;
        }

        private void countWay(int crossers) {
            for (int n = 0; n < asked && n < MOST_ASKED; n++) {
                if (ways == 0) {
                    first[n] = written[n];
                }
                candidates[n] |= 1 << written[n];
            }
            for (int person = 0; person < PEOPLE; person++) {
                crossed[person] += crossers >>> person & 1;
            }
            ways++;
        }
    }
}
