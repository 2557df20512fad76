/** The boundary cases that each promise names: the last value that is allowed and the first that is not, empty, full. */
public final class PromiseEdgesTest {
    private static final int UNKNOWN = -1, OUTSIDE = -2, STATE = -3, FULL = -4, NO = -5, NONE = -6;
    private static final int LEAST = Integer.MIN_VALUE, MOST = Integer.MAX_VALUE;
    private static final String FORTY = "ABCDEFGHabABCDEFGHabABCDEFGHabABCDEFGHab";

    private static final Check C = new Check();

    public static void main(String[] args) {
        newObject();
        set();
        say();
        wipe();
        fault();
        stands();
        readAndSeen();
        missed();
        hired();
        cross();
        unseen();
        look();
        looks();
        best();
        stood();
        sight();
        forget();
        fits();
        could();
        alibi();
        gone();
        out();
        drawn();
        image();
        restore();
        told();
        C.end();
    }

    // ---- 1 boards, days

    private static void newObject() {
        C.part("1 \"Nine places.\"");
        NineNames x = new NineNames();
        C.due("told(1)", x.told(1), 9);
        Check.say(x, "ABCDEFGHA");
        C.due("nine stand", x.stands(-1, 8), 0);
        x.say('B');
        C.due("no more than nine", x.stands(-1, 8), 1);
        C.part("1 a new object is empty");
        NineNames empty = new NineNames();
        C.due("no sign", empty.told(0), 0);
        C.due("law 0", empty.told(2), 0);
        C.due("no SIGHT", empty.told(3), 0);
        C.due("no FAULT", empty.fault(), NONE);
        C.due("no IMAGE 0", empty.restore(0), STATE);
        C.due("no IMAGE 1", empty.restore(1), STATE);
        C.due("wipe()", empty.wipe(), 0);
        C.due("forget()", empty.forget(), 0);
    }

    private static void set() {
        C.part("2 set \"0 LONG\"");
        NineNames x = new NineNames();
        C.due("set(0, 1)", x.set(0, 1), 9);
        C.due("set(0, 9)", x.set(0, 9), 1);
        C.due("set(0, 9), as it is", x.set(0, 9), 9);
        refused(x, "set(0, v)", OUTSIDE, v -> n -> n.set(0, v), LEAST, -1, 0, 10, 265, MOST);
        C.due("LONG is as before", x.told(1), 9);
        C.part("2 set \"1 THE LAW\"");
        C.due("set(1, 2)", x.set(1, 2), 0);
        C.due("set(1, 0)", x.set(1, 0), 2);
        C.due("set(1, 1)", x.set(1, 1), 0);
        C.due("set(1, 1), as it is", x.set(1, 1), 1);
        refused(x, "set(1, v)", OUTSIDE, v -> n -> n.set(1, v), LEAST, -1, 3, 9, 257, MOST);
        C.due("THE LAW is as before", x.told(2), 1);
        C.part("2 set \"OUTSIDE\"");
        refused(x, "set(which, 1)", OUTSIDE, v -> n -> n.set(v, 1), LEAST, -1, 2, 3, 256, MOST);
        C.due("LONG is as before", x.told(1), 9);
        C.due("THE LAW is as before", x.told(2), 1);
        C.part("2 set counts for the DAY that is told already");
        NineNames told = Check.object(9, 0, "ABA");
        told.set(0, 1);
        C.due("one place", told.stands(-1, 1), NONE);
        told.set(0, 9);
        C.due("nine places again", told.stands(-1, 2), 0);
        told.set(1, 1);
        C.due("law 1", told.stands(-1, 2), NONE);
        told.set(0, 2);
        told.set(1, 2);
        C.due("law 2", told.stands(-1, 0), NONE);
        C.part("2 set counts for ways that were counted already");
        NineNames asked = Check.object(1, 0, "A?");
        asked.sight(2, 0, true);
        C.due("one place: it is A again", asked.fits(-1), 1);
        asked.set(0, 2);
        C.due("two places: A stands there still", asked.fits(-1), 8);
        asked.set(1, 2);
        C.due("law 2: nobody stands there", asked.fits(-1), 0);
        asked.set(1, 3);
        C.due("a refused law", asked.fits(-1), 0);
    }

    /** A call that is made from one number. */
    private interface CallOf {
        Call of(int v);
    }

    private static void refused(NineNames x, String name, int due, CallOf call, int... values) {
        for (int v : values) {
            C.due(name + " by " + v, call.of(v).on(x), due);
        }
    }

    private static void say() {
        C.part("3 say \"A sign more: how many. OUTSIDE\"");
        NineNames x = new NineNames();
        refused(x, "say", OUTSIDE, v -> n -> n.say(v), LEAST, -65, 0, 32, 127, 255, 65 + 256, 65 + 65536, MOST);
        C.due("nothing is said", x.told(0), 0);
        C.due("say(33)", x.say(33), 1);
        C.due("say(126)", x.say(126), 2);
        C.part("3 say \"FULL\"");
        for (int n = 3; n <= 40; n++) {
            C.due("sign " + n, x.say(65), n);
        }
        C.due("sign 41", x.say(65), FULL);
        C.due("a sign that can not stand there, either", x.say(33), FULL);
        C.due("40 stay", x.told(0), 40);
        C.part("3 OUTSIDE is ahead of FULL");
        C.due("say(32)", x.say(32), OUTSIDE);
        C.due("say(127)", x.say(127), OUTSIDE);
    }

    private static void wipe() {
        C.part("4 wipe \"Signs go: how many there were.\"");
        C.due("none", new NineNames().wipe(), 0);
        C.due("one", Check.object(9, 0, "!").wipe(), 1);
        NineNames full = Check.object(3, 2, FORTY);
        full.sight(1, 2, true);
        full.image(1);
        C.due("forty", full.wipe(), 40);
        C.due("none is left", full.told(0), 0);
        C.due("wipe() again", full.wipe(), 0);
        C.due("there is room for", full.say('?'), 1);
        C.part("4 only signs go");
        C.due("LONG", full.told(1), 3);
        C.due("THE LAW", full.told(2), 2);
        C.due("SIGHTS", full.told(3), 1);
        C.due("the SIGHT counts", full.fits(0), 2);
        C.due("the IMAGE", full.restore(1), 1);
        C.part("4 a FAULT goes, too");
        NineNames wrong = Check.object(9, 0, "?????!");
        wrong.wipe();
        C.due("fault()", wrong.fault(), NONE);
        Check.say(wrong, "A????");
        C.due("four ? can stand there again", wrong.fault(), NONE);
        C.part("4 ways that were counted go, too");
        C.due("four ?", wrong.fits(-1), 4096);
        wrong.wipe();
        C.due("an empty DAY", wrong.fits(-1), 1);
        C.due("there is no ?", wrong.could(0), NONE);
        C.due("A does not cross", wrong.alibi(0), 0);
    }

    private static void fault() {
        C.part("5 fault \"THE FAULT; NONE.\"");
        C.due("an empty DAY", new NineNames().fault(), NONE);
        C.due("a full PAD", Check.object(9, 0, FORTY).fault(), NONE);
        C.due("place 0", Check.object(9, 0, "!" + FORTY.substring(1)).fault(), 0);
        C.due("place 39", Check.object(9, 0, FORTY.substring(1) + "~").fault(), 39);
        C.due("the fifth ? at place 39", Check.object(9, 0, "????" + "a".repeat(35) + "?").fault(), 39);
        C.due("the fourth ? at place 39", Check.object(9, 0, "???" + "a".repeat(36) + "?").fault(), NONE);
        for (char sign : "@I`i>".toCharArray()) {
            C.due("next to those that can stand there: " + sign, Check.object(9, 0, "A" + sign).fault(), 1);
        }
    }

    // ---- 2 what stands, who has read

    private static void stands() {
        NineNames x = Check.object(9, 0, "ABCDEFGHAb");
        C.part("6 stands \"OUTSIDE: a place 0 to 8\"");
        C.due("place 0", x.stands(-1, 0), 0);
        C.due("place 8", x.stands(-1, 8), 0);
        refused(x, "place", OUTSIDE, v -> n -> n.stands(-1, v), LEAST, -1, 9, 16, 64, MOST);
        C.part("6 stands \"OUTSIDE: EVENTS -1 to as many as there are\"");
        C.due("EVENTS -1: all", x.stands(-1, 1), 7);
        C.due("EVENTS 0", x.stands(0, 0), NONE);
        C.due("EVENTS 1", x.stands(1, 0), 0);
        C.due("EVENTS 10", x.stands(10, 0), 0);
        refused(x, "EVENTS", OUTSIDE, v -> n -> n.stands(v, 0), LEAST, -2, 11, 40, MOST);
        C.due("an empty DAY, 0", new NineNames().stands(0, 0), NONE);
        C.due("an empty DAY, -1", new NineNames().stands(-1, 0), NONE);
        C.due("an empty DAY, 1", new NineNames().stands(1, 0), OUTSIDE);
        C.due("a full PAD, 40", Check.object(9, 0, FORTY).stands(40, 0), 7);
        C.due("a full PAD, 41", Check.object(9, 0, FORTY).stands(41, 0), OUTSIDE);
        C.part("6 stands \"NONE: nobody\"");
        C.due("the first place that is empty", Check.object(9, 0, "AB").stands(-1, 2), NONE);
        C.due("the last that is not", Check.object(9, 0, "AB").stands(-1, 1), 0);
        C.due("a place that the BOARD does not have", Check.object(1, 0, "AB").stands(-1, 1), NONE);
        C.part("6 stands \"NO: there is a FAULT\"");
        C.due("the FAULT behind them", Check.object(9, 0, "A!").stands(1, 0), NO);
        C.due("the FAULT among them", Check.object(9, 0, "A!").stands(2, 0), NO);
        C.due("no EVENTS", Check.object(9, 0, "!").stands(0, 0), NO);
        C.part("6 stands \"STATE: there is some ? among them\"");
        NineNames asked = Check.object(9, 0, "AB?C");
        C.due("right ahead of it", asked.stands(2, 0), 1);
        C.due("right behind it", asked.stands(3, 0), STATE);
        C.due("further behind", asked.stands(4, 0), STATE);
        C.due("all", asked.stands(-1, 0), STATE);
        C.due("a ? ahead of all, no EVENTS", Check.object(9, 0, "?").stands(0, 0), NONE);
        C.due("a ? ahead of all, one EVENT", Check.object(9, 0, "?").stands(1, 0), STATE);
        C.due("an empty place, too", asked.stands(3, 8), STATE);
        C.part("6 two refusals at once");
        C.due("OUTSIDE ahead of STATE", asked.stands(3, 9), OUTSIDE);
        C.due("OUTSIDE ahead of NO", Check.object(9, 0, "!").stands(2, 0), OUTSIDE);
        C.due("NO ahead of STATE", Check.object(9, 0, "?!").stands(-1, 0), NO);
    }

    private static void readAndSeen() {
        NineNames x = Check.object(9, 0, "AhHa");
        C.part("7 read \"UNKNOWN\"");
        C.due("read(0)", x.read(0), 0b10000001);
        C.due("read(7)", x.read(7), 0b1);
        refused(x, "read", UNKNOWN, v -> n -> n.read(v), LEAST, -1, 8, 32, MOST);
        C.part("7 read \"NO: there is a FAULT; STATE: there is some ?\"");
        dayRefusals(n -> n.read(0));
        C.due("an empty DAY", new NineNames().read(0), 0);
        C.due("UNKNOWN ahead of NO", Check.object(9, 0, "!").read(8), UNKNOWN);
        C.due("UNKNOWN ahead of STATE", Check.object(9, 0, "?").read(-1), UNKNOWN);
        C.part("8 seen \"UNKNOWN\"");
        C.due("seen(0)", x.seen(0), 0b10000001);
        C.due("seen(7)", x.seen(7), 0b1);
        refused(x, "seen", UNKNOWN, v -> n -> n.seen(v), LEAST, -1, 8, 32, MOST);
        C.part("8 seen \"NO, STATE, likewise\"");
        dayRefusals(n -> n.seen(7));
        C.due("an empty DAY", new NineNames().seen(7), 0);
        C.due("UNKNOWN ahead of NO", Check.object(9, 0, "!").seen(8), UNKNOWN);
        C.due("UNKNOWN ahead of STATE", Check.object(9, 0, "?").seen(-1), UNKNOWN);
    }

    /** A FAULT is NO, a ? is STATE, wherever it stands; of both NO comes first. */
    private static void dayRefusals(Call call) {
        C.due("a ? alone", call.on(Check.object(9, 0, "?")), STATE);
        C.due("a ? ahead", call.on(Check.object(9, 0, "?Aa")), STATE);
        C.due("a ? behind all", call.on(Check.object(9, 0, "Aa?")), STATE);
        C.due("four ?", call.on(Check.object(9, 0, "????")), STATE);
        C.due("a FAULT alone", call.on(Check.object(9, 0, "!")), NO);
        C.due("a FAULT ahead", call.on(Check.object(9, 0, "!Aa")), NO);
        C.due("a FAULT behind all", call.on(Check.object(9, 0, "Aa!")), NO);
        C.due("five ?", call.on(Check.object(9, 0, "?????")), NO);
        C.due("a ? ahead of a FAULT", call.on(Check.object(9, 0, "?!")), NO);
        C.due("a FAULT ahead of a ?", call.on(Check.object(9, 0, "!?")), NO);
    }

    private static void missed() {
        C.part("9 missed \"how many (i = -1), the EVENT of the i-th; NONE\"");
        NineNames x = Check.object(1, 0, "ABaC");
        C.due("missed(-1)", x.missed(-1), 2);
        C.due("missed(0)", x.missed(0), 0);
        C.due("missed(1)", x.missed(1), 3);
        refused(x, "missed", NONE, v -> n -> n.missed(v), LEAST, -2, 2, 64, MOST);
        C.due("an empty DAY, -1", new NineNames().missed(-1), 0);
        C.due("an empty DAY, 0", new NineNames().missed(0), NONE);
        NineNames full = Check.object(9, 0, "A".repeat(40));
        C.due("missed(39)", full.missed(39), 39);
        C.due("missed(40)", full.missed(40), NONE);
        C.part("9 missed \"NO, STATE, likewise\"");
        dayRefusals(n -> n.missed(-1));
        dayRefusals(n -> n.missed(0));
        dayRefusals(n -> n.missed(-2));
    }

    // ---- 3 boys, looks

    private static void hired() {
        C.part("10 hired \"how many (i = -1), ahead of the i-th look of theirs; NONE: not by 9 (also: there is no such look)\"");
        NineNames x = Check.object(1, 0, "AaAaAaAaAaAa");
        C.due("in all", x.hired(1, 0, -1), 6);
        for (int i = 0; i < 6; i++) {
            C.due("ahead of look " + i, x.hired(1, 0, i), 1);
        }
        refused(x, "there is no such look", NONE, v -> n -> n.hired(1, 0, v), LEAST, -2, 6, 7, MOST);
        C.due("an empty DAY, -1", new NineNames().hired(255, 0, -1), 0);
        C.due("an empty DAY, 0", new NineNames().hired(255, 0, 0), NONE);
        NineNames ten = Check.object(9, 0, "AaABCDEFGHBa");
        C.due("ten: -1", ten.hired(1, 0, -1), NONE);
        C.due("ten: 0", ten.hired(1, 0, 0), NONE);
        C.due("ten: 1", ten.hired(1, 0, 1), NONE);
        NineNames nine = Check.object(9, 0, "AaABCDEFGHBCa");
        C.due("nine: -1", nine.hired(1, 0, -1), 9);
        C.due("nine: 0", nine.hired(1, 0, 0), 9);
        C.due("nine: 1", nine.hired(1, 0, 1), 0);
        C.due("nine: 2", nine.hired(1, 0, 2), NONE);
        hiredRefusals();
    }

    private static void hiredRefusals() {
        NineNames x = Check.object(1, 0, "Aah");
        C.part("10 hired \"UNKNOWN: the PERSON\"");
        C.due("PERSON 0", x.hired(1, 0, -1), 1);
        C.due("PERSON 7", x.hired(1, 7, -1), 0);
        refused(x, "PERSON", UNKNOWN, v -> n -> n.hired(1, v, -1), LEAST, -1, 8, 32, MOST);
        C.part("10 hired \"OUTSIDE: bits 1 to 255\"");
        C.due("bits 1", x.hired(1, 0, -1), 1);
        C.due("bits 128", x.hired(128, 0, 0), 1);
        C.due("bits 255", x.hired(255, 0, -1), 1);
        refused(x, "bits", OUTSIDE, v -> n -> n.hired(v, 0, -1), LEAST, -1, 0, 256, 257, MOST);
        C.part("10 hired \"NO, STATE, likewise\"");
        dayRefusals(n -> n.hired(1, 0, -1));
        dayRefusals(n -> n.hired(128, 0, 0));
        C.part("10 hired \"FULL: they look more than 6 times\"");
        C.due("6 times", Check.object(1, 0, "aaaaaa").hired(1, 0, -1), 0);
        C.due("7 times", Check.object(1, 0, "aaaaaaa").hired(1, 0, -1), FULL);
        C.due("7 times, no such look", Check.object(1, 0, "aaaaaaa").hired(1, 0, 9), FULL);
        C.due("40 times", Check.object(1, 0, "a".repeat(40)).hired(1, 0, -1), FULL);
        C.due("40 times, but others", Check.object(1, 0, "a".repeat(40)).hired(254, 0, -1), 0);
        C.part("10 two refusals at once");
        C.due("UNKNOWN ahead of OUTSIDE", x.hired(0, 8, -1), UNKNOWN);
        C.due("UNKNOWN ahead of NO", Check.object(1, 0, "!").hired(1, 8, -1), UNKNOWN);
        C.due("UNKNOWN ahead of FULL", Check.object(1, 0, "aaaaaaa").hired(1, 8, -1), UNKNOWN);
        C.due("OUTSIDE ahead of NO", Check.object(1, 0, "!").hired(256, 0, -1), OUTSIDE);
        C.due("OUTSIDE ahead of STATE", Check.object(1, 0, "?").hired(0, 0, -1), OUTSIDE);
        C.due("OUTSIDE ahead of FULL", Check.object(1, 0, "aaaaaaa").hired(257, 0, -1), OUTSIDE);
        C.due("NO ahead of FULL", Check.object(1, 0, "aaaaaaa!").hired(1, 0, -1), NO);
        C.due("STATE ahead of FULL", Check.object(1, 0, "aaaaaaa?").hired(1, 0, -1), STATE);
    }

    private static void cross() {
        C.part("11 cross \"the place (what = 0), SEEN by how many then (1)\"");
        NineNames x = Check.object(9, 0, "aAb");
        C.due("what 0", x.cross(1, 0), 3);
        C.due("what 1", x.cross(1, 1), 0);
        C.due("an empty DAY, 0", new NineNames().cross(7, 0), 0);
        C.due("an empty DAY, 1", new NineNames().cross(7, 1), 0);
        C.part("11 cross \"UNKNOWN; OUTSIDE\"");
        C.due("PERSON 0", x.cross(0, 0), 1);
        C.due("PERSON 0, by b", x.cross(0, 1), 1);
        C.due("PERSON 7", x.cross(7, 0), 3);
        refused(x, "PERSON", UNKNOWN, v -> n -> n.cross(v, 0), LEAST, -1, 8, 32, MOST);
        refused(x, "what", OUTSIDE, v -> n -> n.cross(0, v), LEAST, -1, 2, 256, MOST);
        C.part("11 cross \"NO, STATE, likewise; FULL: there are 40 EVENTS\"");
        dayRefusals(n -> n.cross(0, 0));
        dayRefusals(n -> n.cross(0, 1));
        fortyRefusals(n -> n.cross(0, 0));
        fortyRefusals(n -> n.cross(0, 1));
        C.due("UNKNOWN ahead of OUTSIDE", x.cross(8, 2), UNKNOWN);
        C.due("UNKNOWN ahead of FULL", Check.object(9, 0, FORTY).cross(8, 0), UNKNOWN);
        C.due("OUTSIDE ahead of FULL", Check.object(9, 0, FORTY).cross(0, 2), OUTSIDE);
        C.due("OUTSIDE ahead of NO", Check.object(9, 0, "!").cross(0, -1), OUTSIDE);
        C.due("OUTSIDE ahead of STATE", Check.object(9, 0, "?").cross(0, 2), OUTSIDE);
        C.due("no crossing came to the DAY", x.told(0), 3);
    }

    private static void fortyRefusals(Call call) {
        C.due("39 EVENTS", call.on(Check.object(9, 0, FORTY.substring(1))) >= 0);
        C.due("40 EVENTS", call.on(Check.object(9, 0, FORTY)), FULL);
        C.due("40 crossings", call.on(Check.object(9, 0, "A".repeat(40))), FULL);
        C.due("40 looks", call.on(Check.object(9, 0, "a".repeat(40))), FULL);
        C.due("40 EVENTS, one of them ?", call.on(Check.object(9, 0, "?" + FORTY.substring(1))), STATE);
        C.due("40 EVENTS and a FAULT", call.on(Check.object(9, 0, FORTY.substring(1) + "!")), NO);
        C.due("40 EVENTS, a ? and a FAULT", call.on(Check.object(9, 0, "?" + FORTY.substring(2) + "!")), NO);
    }

    private static void unseen() {
        C.part("12 unseen \"UNSEEN: how many places\"");
        NineNames x = Check.object(9, 0, "aAb");
        C.due("PERSON 0", x.unseen(0), 0);
        C.due("PERSON 7", x.unseen(7), 1);
        C.due("an empty DAY", new NineNames().unseen(7), 1);
        C.due("40 places", Check.object(9, 0, "A".repeat(39)).unseen(7), 40);
        C.part("12 unseen \"UNKNOWN; NO, STATE, FULL, likewise\"");
        refused(x, "PERSON", UNKNOWN, v -> n -> n.unseen(v), LEAST, -1, 8, 32, MOST);
        dayRefusals(n -> n.unseen(0));
        fortyRefusals(n -> n.unseen(0));
        C.due("UNKNOWN ahead of NO", Check.object(9, 0, "!").unseen(8), UNKNOWN);
        C.due("UNKNOWN ahead of STATE", Check.object(9, 0, "?").unseen(8), UNKNOWN);
        C.due("UNKNOWN ahead of FULL", Check.object(9, 0, FORTY).unseen(-1), UNKNOWN);
        C.due("no crossing came to the DAY", x.told(0), 3);
    }

    private static void look() {
        C.part("13 look \"the place (what = 0), how many are MISSED then (1)\"");
        NineNames x = Check.object(2, 0, "ABCD");
        C.due("what 0", x.look(0), 2);
        C.due("what 1", x.look(1), 2);
        C.due("an empty DAY, 0", new NineNames().look(0), 0);
        C.due("an empty DAY, 1", new NineNames().look(1), 0);
        C.part("13 look \"OUTSIDE; NO, STATE, FULL (40 EVENTS), likewise\"");
        refused(x, "what", OUTSIDE, v -> n -> n.look(v), LEAST, -1, 2, 256, MOST);
        dayRefusals(n -> n.look(0));
        dayRefusals(n -> n.look(1));
        fortyRefusals(n -> n.look(0));
        fortyRefusals(n -> n.look(1));
        C.due("OUTSIDE ahead of NO", Check.object(9, 0, "!").look(2), OUTSIDE);
        C.due("OUTSIDE ahead of STATE", Check.object(9, 0, "?").look(-1), OUTSIDE);
        C.due("OUTSIDE ahead of FULL", Check.object(9, 0, FORTY).look(2), OUTSIDE);
        C.due("no look came to the DAY", x.told(0), 4);
    }

    private static void looks() {
        C.part("14 looks \"how many (what = 0), behind which crossings, as bits (1); NONE: by none of these\"");
        NineNames x = Check.object(2, 0, "ABCD");
        C.due("what 0", x.looks(0), 2);
        C.due("what 1", x.looks(1), 0b1010);
        C.due("an empty DAY, 0", new NineNames().looks(0), 0);
        C.due("an empty DAY, 1", new NineNames().looks(1), 0);
        C.due("no crossing", Check.object(1, 2, "a".repeat(40)).looks(0), 0);
        C.due("by none, 0", Check.object(2, 2, "AB").looks(0), NONE);
        C.due("by none, 1", Check.object(2, 2, "AB").looks(1), NONE);
        C.due("by one, one place more", Check.object(3, 2, "AaB").looks(1), 0b10);
        C.part("14 looks \"OUTSIDE; NO, STATE, likewise\"");
        refused(x, "what", OUTSIDE, v -> n -> n.looks(v), LEAST, -1, 2, 256, MOST);
        dayRefusals(n -> n.looks(0));
        dayRefusals(n -> n.looks(1));
        C.part("14 looks \"FULL: more than 12 crossings\"");
        C.due("12", Check.object(9, 0, "A".repeat(12)).looks(0), 2);
        C.due("12, as bits", Check.object(9, 0, "A".repeat(12)).looks(1), 0b100000000100);
        C.due("13", Check.object(9, 0, "A".repeat(13)).looks(0), FULL);
        C.due("13, as bits", Check.object(9, 0, "A".repeat(13)).looks(1), FULL);
        C.due("13 that all are read", Check.object(9, 0, "Aa".repeat(13)).looks(0), FULL);
        C.due("12 that all are read", Check.object(9, 0, "Aa".repeat(12)).looks(0), 0);
        C.due("12 and 28 looks: 40 EVENTS are no matter", Check.object(9, 0, "a".repeat(28) + "A".repeat(12)).looks(0), 2);
        C.due("40", Check.object(9, 0, "A".repeat(40)).looks(0), FULL);
        C.part("14 two refusals at once");
        C.due("OUTSIDE ahead of NO", Check.object(9, 0, "!").looks(2), OUTSIDE);
        C.due("OUTSIDE ahead of STATE", Check.object(9, 0, "?").looks(-1), OUTSIDE);
        C.due("OUTSIDE ahead of FULL", Check.object(9, 0, "A".repeat(13)).looks(2), OUTSIDE);
        C.due("NO ahead of FULL", Check.object(9, 0, "A".repeat(13) + "!").looks(0), NO);
        C.due("STATE ahead of FULL", Check.object(9, 0, "A".repeat(13) + "?").looks(0), STATE);
        C.due("a ? more than 12 is STATE", Check.object(9, 0, "A".repeat(12) + "?").looks(0), STATE);
    }

    private static void best() {
        C.part("15 best \"BEST LONG (what = 0), MISSED by it (1)\"");
        NineNames x = Check.object(5, 0, "ABCDEFGHABa");
        C.due("what 0", x.best(0), 9);
        C.due("what 1", x.best(1), 1);
        C.due("an empty DAY, 0", new NineNames().best(0), 1);
        C.due("an empty DAY, 1", new NineNames().best(1), 0);
        C.due("40 EVENTS are no matter", Check.object(1, 0, "A".repeat(39) + "a").best(1), 30);
        C.due("LONG is as before", x.told(1), 5);
        C.part("15 best \"OUTSIDE; NO, STATE, likewise\"");
        refused(x, "what", OUTSIDE, v -> n -> n.best(v), LEAST, -1, 2, 256, MOST);
        dayRefusals(n -> n.best(0));
        dayRefusals(n -> n.best(1));
        C.due("OUTSIDE ahead of NO", Check.object(9, 0, "!").best(2), OUTSIDE);
        C.due("OUTSIDE ahead of STATE", Check.object(9, 0, "?").best(-1), OUTSIDE);
    }

    private static void stood() {
        C.part("16 stood \"OUTSIDE: 1 to 9\"");
        NineNames x = Check.object(5, 0, "ABBBBBBBB");
        C.due("stood(1)", x.stood(1), 0b10);
        C.due("stood(8)", x.stood(8), 0b10);
        C.due("stood(9)", x.stood(9), 0b11);
        refused(x, "v", OUTSIDE, v -> n -> n.stood(v), LEAST, -1, 0, 10, 16, 257, MOST);
        C.due("LONG is as before", x.told(1), 5);
        C.due("an empty DAY", new NineNames().stood(1), 0);
        C.due("a full PAD", Check.object(1, 0, FORTY).stood(8), 255);
        C.part("16 stood \"NO, STATE, likewise\"");
        dayRefusals(n -> n.stood(1));
        C.due("OUTSIDE ahead of NO", Check.object(9, 0, "!").stood(0), OUTSIDE);
        C.due("OUTSIDE ahead of STATE", Check.object(9, 0, "?").stood(10), OUTSIDE);
    }

    // ---- 4 what is not told

    private static void sight() {
        C.part("17 sight \"UNKNOWN; OUTSIDE: EVENTS 0 to 40\"");
        NineNames x = new NineNames();
        refused(x, "PERSON", UNKNOWN, v -> n -> n.sight(0, v, true), LEAST, -1, 8, 32, MOST);
        refused(x, "EVENTS", OUTSIDE, v -> n -> n.sight(v, 0, true), LEAST, -1, 41, 256, MOST);
        C.due("UNKNOWN ahead of OUTSIDE", x.sight(41, 8, true), UNKNOWN);
        C.due("none came", x.told(3), 0);
        C.due("EVENTS 0", x.sight(0, 0, true), 1);
        C.due("EVENTS 40, more than there are", x.sight(40, 7, false), 2);
        C.part("17 sight \"A SIGHT more: how many. FULL\"");
        for (int n = 3; n <= 6; n++) {
            C.due("SIGHT " + n, x.sight(40, 7, false), n);
        }
        C.due("SIGHT 7", x.sight(40, 7, false), FULL);
        C.due("six stay", x.told(3), 6);
        C.due("UNKNOWN ahead of FULL", x.sight(0, 8, true), UNKNOWN);
        C.due("OUTSIDE ahead of FULL", x.sight(41, 0, true), OUTSIDE);
        C.part("17 sight is refused by no DAY");
        C.due("a FAULT", Check.object(9, 0, "!").sight(1, 0, true), 1);
        C.due("a ?", Check.object(9, 0, "?").sight(1, 0, true), 1);
        C.due("a full PAD", Check.object(9, 0, FORTY).sight(40, 0, true), 1);
    }

    private static void forget() {
        C.part("18 forget \"SIGHTS go: how many there were.\"");
        NineNames x = Check.object(3, 1, "?");
        C.due("none", x.forget(), 0);
        for (int n = 1; n <= 6; n++) {
            x.sight(1, 0, n == 1);
        }
        x.image(0);
        C.due("none fits", x.fits(-1), 0);
        C.due("six", x.forget(), 6);
        C.due("none is left", x.told(3), 0);
        C.due("they count no more", x.fits(-1), 8);
        C.due("forget() again", x.forget(), 0);
        C.due("there is room for one", x.sight(1, 7, true), 1);
        C.due("it counts", x.fits(0), 7);
        forgetAtEachEnd(0);
        forgetAtEachEnd(40);
        C.part("18 only SIGHTS go");
        C.due("signs", x.told(0), 1);
        C.due("LONG", x.told(1), 3);
        C.due("THE LAW", x.told(2), 1);
        C.due("the IMAGE", x.restore(0), 1);
        C.due("with its SIGHTS", x.told(3), 6);
    }

    private static void forgetAtEachEnd(int events) {
        NineNames x = Check.object(9, 0, "a".repeat(40));
        x.sight(events, 0, true);
        C.due("a SIGHT behind " + events + " that can not be", x.fits(-1), 0);
        x.forget();
        C.due("it is forgotten", x.fits(-1), 1);
        x.sight(events, 0, false);
        C.due("a SIGHT behind " + events + " that must be", x.fits(-1), 1);
    }

    private static void fits() {
        C.part("19 fits \"how many (i = -1), who crosses at the i-th ? in the first; NONE\"");
        NineNames x = Check.object(1, 0, "?a?a?a?a");
        for (int n = 0; n < 4; n++) {
            x.sight(2 * n + 1, 7 - n, true);
        }
        C.due("how many", x.fits(-1), 1);
        for (int i = 0; i < 4; i++) {
            C.due("fits(" + i + ")", x.fits(i), 7 - i);
        }
        refused(x, "there is no such ?", NONE, v -> n -> n.fits(v), LEAST, -2, 4, 5, 32, MOST);
        C.due("one ?, fits(0)", Check.object(1, 0, "?").fits(0), 0);
        C.due("one ?, fits(1)", Check.object(1, 0, "?").fits(1), NONE);
        C.due("no ?, -1", Check.object(9, 0, FORTY).fits(-1), 1);
        C.due("no ?, 0", Check.object(9, 0, FORTY).fits(0), NONE);
        C.due("an empty DAY, -1", new NineNames().fits(-1), 1);
        C.due("an empty DAY, 0", new NineNames().fits(0), NONE);
        x.sight(1, 0, true);
        C.due("none, -1", x.fits(-1), 0);
        C.due("none, 0", x.fits(0), NONE);
        C.due("none, 3", x.fits(3), NONE);
        C.due("most ways", Check.object(9, 0, FORTY.substring(4) + "????").fits(-1), 4096);
        fitsBehind();
        fitsAtTheLastPlace();
        fitsByLaws();
        C.part("19 fits \"NO: there is a FAULT\"");
        faultRefusals(n -> n.fits(-1));
        faultRefusals(n -> n.fits(0));
        faultRefusals(n -> n.fits(-2));
    }

    private static void fitsBehind() {
        C.part("19 \"(A SIGHT behind more EVENTS than there are does not count.)\"");
        NineNames x = Check.object(9, 0, "?");
        x.sight(2, 0, true);
        C.due("behind one more", x.fits(-1), 8);
        C.due("behind one more", x.could(0), 255);
        C.due("behind one more", x.alibi(0), 1);
        x.say('a');
        C.due("behind as many as there are", x.fits(-1), 1);
        C.due("behind as many as there are", x.could(0), 1);
        C.due("behind as many as there are", x.alibi(1), 0);
        x.say('b');
        C.due("behind fewer", x.fits(-1), 1);
        x.wipe();
        x.say('?');
        C.due("on a shorter DAY again", x.fits(-1), 8);
        NineNames none = new NineNames();
        none.sight(0, 0, false);
        C.due("behind no EVENTS: nothing stood there", none.fits(-1), 1);
        none.sight(0, 0, true);
        C.due("behind no EVENTS: a name stood there", none.fits(-1), 0);
        NineNames last = Check.object(9, 0, "a".repeat(39));
        last.sight(40, 0, true);
        C.due("behind 40 of 39", last.fits(-1), 1);
        last.say('?');
        C.due("behind 40 of 40", last.could(0), 1);
    }

    private static void fitsAtTheLastPlace() {
        C.part("19 fits: a name at the last place stands there, one crossing later it does not");
        String others = "ABCDEFGABCDEFG";
        for (int length = 1; length <= 9; length++) {
            NineNames last = Check.object(length, 0, "?" + others.substring(0, length - 1));
            last.sight(length, 7, true);
            C.due(length + " places: H at the last one", last.fits(-1), 1);
            C.due(length + " places: H at the last one", last.fits(0), 7);
            NineNames gone = Check.object(length, 0, "?" + others.substring(0, length));
            gone.sight(length + 1, 7, true);
            C.due(length + " places: H is gone", gone.fits(-1), 0);
            gone.forget();
            gone.sight(length + 1, 7, false);
            C.due(length + " places: whoever it was, H is gone", gone.fits(-1), 8);
            NineNames told = Check.object(length, 0, "H" + others.substring(0, length - 1) + "?");
            told.sight(length, 7, true);
            C.due(length + " places: a told H at the last one", told.fits(-1), 8);
            told.sight(length + 1, 7, false);
            C.due(length + " places: it goes out by all but H", told.could(0), 127);
        }
    }

    private static void fitsByLaws() {
        C.part("19 fits: told crossings between SIGHTS, by each LAW");
        sightsHold("law 0", 2, 0, "ABC?", 3, 0b110);
        sightsHold("law 0, ahead of the last crossing", 2, 0, "ABC?", 2, 0b011);
        sightsHold("law 0, the same again", 2, 0, "ABAA?", 4, 0b001);
        sightsHold("law 1, the same again", 2, 1, "ABA?", 3, 0b011);
        sightsHold("law 1, both again", 2, 1, "ABABC?", 5, 0b110);
        sightsHold("law 1, again behind the SIGHT", 2, 1, "ABA?", 2, 0b011);
        sightsHold("law 2", 5, 2, "ABC?", 3, 0b110);
        sightsHold("law 2, ahead of the last crossing", 5, 2, "ABC?", 2, 0b011);
        sightsHold("law 2, nobody", 2, 2, "ABC?", 3, 0);
        NineNames two = Check.object(2, 0, "ABCDE?");
        two.sight(2, 0, true);
        two.sight(3, 0, false);
        two.sight(3, 1, true);
        two.sight(5, 2, false);
        two.sight(5, 3, true);
        C.due("five SIGHTS of told ones", two.fits(-1), 8);
        two.sight(6, 3, true);
        C.due("and one behind the ?", two.could(0), 0b1000);
        NineNames apart = Check.object(2, 0, "ABCDE?");
        apart.sight(2, 1, true);
        apart.sight(5, 4, true);
        C.due("as many cross between two SIGHTS as there are places, and one", apart.fits(-1), 8);
        NineNames again = Check.object(2, 1, "ABA?");
        again.sight(2, 0, true);
        again.sight(3, 0, true);
        C.due("law 1: the same again between two SIGHTS", again.fits(-1), 8);
    }

    /** Behind so many EVENTS, all told, these stood there and no others. */
    private static void sightsHold(String what, int length, int law, String day, int events, int people) {
        for (int person = 0; person < 8; person++) {
            boolean stood = (people >> person & 1) == 1;
            NineNames x = Check.object(length, law, day);
            x.sight(events, person, stood);
            C.due(what + ": so it was, " + person, x.fits(-1), 8);
            x.sight(events, person, !stood);
            C.due(what + ": both can not be, " + person, x.fits(-1), 0);
            x.forget();
            x.sight(events, person, !stood);
            C.due(what + ": so it was not, " + person, x.fits(-1), 0);
        }
    }

    private static void faultRefusals(Call call) {
        C.due("a FAULT alone", call.on(Check.object(9, 0, "!")), NO);
        C.due("a FAULT behind", call.on(Check.object(9, 0, "?A!")), NO);
        C.due("a FAULT ahead", call.on(Check.object(9, 0, "!A?")), NO);
        C.due("five ?", call.on(Check.object(9, 0, "?????")), NO);
        C.due("four ? are no refusal", call.on(Check.object(9, 0, "????")) != NO);
    }

    private static void could() {
        C.part("20 could \"Who can have been the i-th ?, as bits; NONE: there is no such ?\"");
        NineNames x = Check.object(1, 0, "?a?a?a?a");
        for (int i = 0; i < 4; i++) {
            C.due("could(" + i + ")", x.could(i), 255);
        }
        refused(x, "there is no such ?", NONE, v -> n -> n.could(v), LEAST, -2, -1, 4, 5, 32, MOST);
        x.sight(1, 0, true);
        x.sight(7, 7, true);
        C.due("the first bit", x.could(0), 1);
        C.due("the last bit", x.could(3), 128);
        x.sight(1, 1, true);
        C.due("none fits: no bits", x.could(0), 0);
        C.due("none fits, no such ?", x.could(4), NONE);
        C.due("no ?", Check.object(9, 0, FORTY).could(0), NONE);
        C.due("an empty DAY", new NineNames().could(0), NONE);
        C.part("20 could \"NO: there is a FAULT\"");
        faultRefusals(n -> n.could(0));
        faultRefusals(n -> n.could(9));
    }

    private static void alibi() {
        C.part("21 alibi \"ALIBI. UNKNOWN\"");
        NineNames x = Check.object(9, 0, "AH?");
        C.due("alibi(0)", x.alibi(0), 8);
        C.due("alibi(7)", x.alibi(7), 8);
        C.due("alibi(6)", x.alibi(6), 1);
        refused(x, "alibi", UNKNOWN, v -> n -> n.alibi(v), LEAST, -1, 8, 32, MOST);
        C.due("an empty DAY", new NineNames().alibi(0), 0);
        C.due("no ?, it is told", Check.object(9, 0, "A").alibi(0), 1);
        C.due("no ?, it is not", Check.object(9, 0, "A").alibi(1), 0);
        x.sight(0, 0, true);
        C.due("none fits", x.alibi(0), 0);
        C.part("21 alibi \"NO: there is a FAULT\"");
        faultRefusals(n -> n.alibi(0));
        C.due("UNKNOWN ahead of NO", Check.object(9, 0, "!").alibi(8), UNKNOWN);
    }

    private static void gone() {
        C.part("22 gone \"GONE. UNKNOWN\"");
        NineNames x = Check.object(9, 0, "AH");
        C.due("gone(0)", x.gone(0), 8);
        C.due("gone(7)", x.gone(7), 9);
        C.due("gone(1)", x.gone(1), 0);
        refused(x, "gone", UNKNOWN, v -> n -> n.gone(v), LEAST, -1, 8, 32, MOST);
        C.due("an empty DAY", new NineNames().gone(0), 0);
        C.due("a full PAD", Check.object(9, 0, "A".repeat(40)).gone(0), 9);
        C.due("nothing ever stands there", Check.object(2, 2, "A").gone(0), 0);
        C.due("no boy came to the DAY", x.told(0), 2);
        C.part("22 gone \"NO, STATE, likewise\"");
        dayRefusals(n -> n.gone(0));
        C.due("UNKNOWN ahead of NO", Check.object(9, 0, "!").gone(8), UNKNOWN);
        C.due("UNKNOWN ahead of STATE", Check.object(9, 0, "?").gone(-1), UNKNOWN);
    }

    private static void out() {
        C.part("23 out \"NONE: it stands there still\"");
        NineNames x = Check.object(2, 0, "ABaC");
        C.due("out(0)", x.out(0), 3);
        C.due("out(1), at the last place", x.out(1), NONE);
        C.due("out(3), the newest", x.out(3), NONE);
        C.part("23 out \"OUTSIDE: EVENT e is no crossing\"");
        C.due("a look", x.out(2), OUTSIDE);
        refused(x, "out", OUTSIDE, v -> n -> n.out(v), LEAST, -2, -1, 4, 39, 40, 64, MOST);
        C.due("an empty DAY", new NineNames().out(0), OUTSIDE);
        C.due("the 40th EVENT", Check.object(9, 0, "A".repeat(40)).out(39), NONE);
        C.due("a 41st EVENT", Check.object(9, 0, "A".repeat(40)).out(40), OUTSIDE);
        x.wipe();
        C.due("a crossing that was wiped", x.out(0), OUTSIDE);
        C.part("23 out \"NO, STATE (ahead of OUTSIDE), likewise\"");
        dayRefusals(n -> n.out(0));
        C.due("STATE ahead of OUTSIDE: a look", Check.object(9, 0, "a?").out(0), STATE);
        C.due("STATE ahead of OUTSIDE: the ? itself", Check.object(9, 0, "a?").out(1), STATE);
        C.due("STATE ahead of OUTSIDE: -1", Check.object(9, 0, "a?").out(-1), STATE);
        C.due("STATE ahead of OUTSIDE: more than there are", Check.object(9, 0, "a?").out(2), STATE);
        C.due("NO ahead of OUTSIDE: a look", Check.object(9, 0, "a!").out(0), NO);
        C.due("NO ahead of OUTSIDE: the FAULT itself", Check.object(9, 0, "a!").out(1), NO);
        C.due("NO ahead of OUTSIDE: -1", Check.object(9, 0, "a!").out(-1), NO);
        C.due("NO ahead of OUTSIDE: more than there are", Check.object(9, 0, "a!").out(2), NO);
        C.due("NO ahead of STATE and OUTSIDE", Check.object(9, 0, "a?!").out(0), NO);
    }

    private static void drawn() {
        C.part("24 drawn \"different names (person = -1), for how many crossings that of a PERSON\"");
        // From 0: 74, 5624, 28632 are 2, 0, 0 left over by 8.
        NineNames x = Check.object(9, 0, "H");
        C.due("drawn(0, 2, -1)", x.drawn(0, 2, -1), 3);
        C.due("drawn(0, 2, 0)", x.drawn(0, 2, 0), 1);
        C.due("drawn(0, 2, 7)", x.drawn(0, 2, 7), 2);
        C.due("drawn(0, 0, -1)", x.drawn(0, 0, -1), 1);
        C.due("drawn(0, 0, 7)", x.drawn(0, 0, 7), 0);
        C.due("an empty DAY, no draw", new NineNames().drawn(0, 0, -1), 0);
        C.due("a full PAD", Check.object(9, 0, "A".repeat(40)).drawn(0, 1, 2), 1);
        C.due("no draw came to the DAY", x.told(0), 1);
        C.due("no draw stands there", x.stands(-1, 1), NONE);
        C.part("24 drawn \"UNKNOWN; OUTSIDE\"");
        refused(x, "PERSON", UNKNOWN, v -> n -> n.drawn(0, 2, v), LEAST, -2, 8, 32, MOST);
        C.due("seed 9999", x.drawn(9999, 1, 4), 1);
        refused(x, "seed", OUTSIDE, v -> n -> n.drawn(v, 1, 4), LEAST, -1, 10000, 65537, MOST);
        C.due("m 99", Check.object(1, 0, "").drawn(9999, 99, -1), 1);
        refused(x, "m", OUTSIDE, v -> n -> n.drawn(0, v, 4), LEAST, -1, 100, 256, MOST);
        refused(x, "m, different names", OUTSIDE, v -> n -> n.drawn(0, v, -1), LEAST, -1, 100, MOST);
        C.due("UNKNOWN ahead of OUTSIDE, the seed", x.drawn(-1, 0, 8), UNKNOWN);
        C.due("UNKNOWN ahead of OUTSIDE, m", x.drawn(0, 100, -2), UNKNOWN);
        C.part("24 drawn \"NO, STATE, likewise\"");
        dayRefusals(n -> n.drawn(0, 0, -1));
        dayRefusals(n -> n.drawn(9999, 99, 7));
        C.due("UNKNOWN ahead of NO", Check.object(9, 0, "!").drawn(0, 0, 8), UNKNOWN);
        C.due("UNKNOWN ahead of STATE", Check.object(9, 0, "?").drawn(0, 0, -2), UNKNOWN);
        C.due("OUTSIDE ahead of NO", Check.object(9, 0, "!").drawn(10000, 0, 0), OUTSIDE);
        C.due("OUTSIDE ahead of STATE", Check.object(9, 0, "?").drawn(0, 100, 0), OUTSIDE);
    }

    private static void image() {
        C.part("25 image \"All but the PAD is kept in an IMAGE (0, 1): 1. OUTSIDE.\"");
        NineNames x = Check.object(1, 2, FORTY);
        for (int n = 0; n < 6; n++) {
            x.sight(40, n, true);
        }
        refused(x, "image", OUTSIDE, v -> n -> n.image(v), LEAST, -1, 2, 3, 256, MOST);
        C.due("none is kept: 0", x.restore(0), STATE);
        C.due("none is kept: 1", x.restore(1), STATE);
        C.due("image(1)", x.image(1), 1);
        C.due("0 is not kept", x.restore(0), STATE);
        x.set(0, 9);
        x.set(1, 0);
        x.forget();
        C.due("image(0)", x.image(0), 1);
        x.wipe();
        C.due("restore(1)", x.restore(1), 1);
        setting("the least LONG, the last LAW, a full row of SIGHTS, not the PAD", x, 0, 1, 2, 6);
        C.due("it is full", x.sight(0, 0, true), FULL);
        C.due("restore(0)", x.restore(0), 1);
        setting("no SIGHTS", x, 0, 9, 0, 0);
        C.due("it has room", x.sight(0, 0, true), 1);
        C.part("25 an IMAGE again: the later one is kept");
        C.due("image(1)", x.image(1), 1);
        x.set(0, 4);
        C.due("restore(1)", x.restore(1), 1);
        setting("the later one", x, 0, 9, 0, 1);
        C.part("25 image is refused by no DAY");
        C.due("a FAULT", Check.object(9, 0, "!").image(0), 1);
        C.due("a ?", Check.object(9, 0, "?").image(1), 1);
    }

    private static void setting(String what, NineNames x, int... told) {
        for (int n = 0; n < told.length; n++) {
            C.due(what + ": told(" + n + ")", x.told(n), told[n]);
        }
    }

    private static void restore() {
        C.part("26 restore \"It is as it was when it was kept: 1.\"");
        NineNames x = Check.object(4, 1, "A?");
        x.sight(2, 3, true);
        x.sight(1, 0, true);
        x.image(0);
        x.forget();
        x.sight(2, 5, true);
        x.sight(2, 6, true);
        x.sight(2, 7, true);
        x.set(0, 5);
        x.set(1, 2);
        x.say('B');
        C.due("restore(0)", x.restore(0), 1);
        setting("but the PAD", x, 3, 4, 1, 2);
        C.due("its SIGHTS count", x.fits(0), 3);
        x.forget();
        x.sight(2, 4, true);
        C.due("restore(0) again: an IMAGE stays as it was kept", x.restore(0), 1);
        setting("again", x, 3, 4, 1, 2);
        C.due("its SIGHTS count again", x.fits(0), 3);
        C.due("a SIGHT more comes to those of the IMAGE", x.sight(2, 0, false), 3);
        C.part("26 restore counts for ways that were counted already");
        C.due("a SIGHT too many", x.fits(-1), 0);
        x.restore(0);
        C.due("without it", x.fits(-1), 1);
        x.sight(2, 0, true);
        C.part("26 restore \"OUTSIDE\"");
        refused(x, "restore", OUTSIDE, v -> n -> n.restore(v), LEAST, -1, 2, 3, 256, MOST);
        C.part("26 restore \"STATE: it was not\"");
        C.due("the other one", x.restore(1), STATE);
        C.due("a new object, 0", new NineNames().restore(0), STATE);
        C.due("a new object, 1", new NineNames().restore(1), STATE);
        setting("nothing came back", x, 3, 4, 1, 3);
        C.due("OUTSIDE ahead of STATE", new NineNames().restore(2), OUTSIDE);
        C.due("OUTSIDE ahead of STATE", new NineNames().restore(-1), OUTSIDE);
        C.part("26 restore is refused by no DAY");
        NineNames wrong = Check.object(3, 0, FORTY.substring(1) + "!");
        wrong.image(0);
        C.due("a FAULT on a full PAD", wrong.restore(0), 1);
        C.due("the signs stay", wrong.told(0), 40);
    }

    private static void told() {
        C.part("27 told \"0 signs, 1 LONG, 2 THE LAW, 3 SIGHTS. OUTSIDE.\"");
        setting("a new object", new NineNames(), 0, 9, 0, 0);
        NineNames full = Check.object(1, 2, FORTY);
        for (int n = 0; n < 6; n++) {
            full.sight(n, n, true);
        }
        setting("a full one", full, 40, 1, 2, 6);
        refused(full, "told", OUTSIDE, v -> n -> n.told(v), LEAST, -1, 4, 5, 256, MOST);
        setting("with a FAULT", Check.object(8, 1, "!!"), 2, 8, 1, 0);
    }
}
