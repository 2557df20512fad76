/** The boundary cases that "Terms" names, a part for each sentence; what comes first of refusals is in RefusalsTest. */
public final class TermsEdgesTest {
    private static final int UNKNOWN = -1, OUTSIDE = -2, STATE = -3, FULL = -4, NO = -5, NONE = -6;
    private static final int LEAST = Integer.MIN_VALUE, MOST = Integer.MAX_VALUE;
    private static final String LETTERS = "ABCDEFGHABCDEFGH";
    /** By LONG: the middle place, counted from 1 on. */
    private static final int[] MIDDLE = {0, 1, 1, 2, 2, 3, 3, 4, 4, 5};

    private static final Check C = new Check();

    public static void main(String[] args) {
        calls();
        boards();
        laws();
        days();
        reading();
        boysAndCrossings();
        looks();
        lengths();
        sights();
        goneAndOut();
        draws();
        C.end();
    }

    // ---- what it is

    private static void calls() {
        C.part("\"An object is used for at most 512 calls after it has been made\"");
        NineNames x = new NineNames();
        int made = 0;
        for (int round = 0; round < 10; round++) {
            C.due("wipe() in round " + round, x.wipe(), round == 0 ? 0 : 40);
            for (int n = 1; n <= 40; n++) {
                C.due("say(65) in round " + round, x.say(65), n);
            }
            made += 41;
        }
        for (; made < 511; made++) {
            C.due("call " + made, x.drawn(1, 1, 5), 1);
        }
        C.due("the 512th call", x.stands(-1, 8), 0);
    }

    // ---- 1

    private static void boards() {
        C.part("\"PEOPLE 0 to 7 (A to H)\"");
        personCall("read", x -> x.read(0), x -> x.read(7), x -> x.read(-1), x -> x.read(8), x -> x.read(LEAST), x -> x.read(MOST));
        personCall("seen", x -> x.seen(0), x -> x.seen(7), x -> x.seen(-1), x -> x.seen(8), x -> x.seen(LEAST), x -> x.seen(MOST));
        personCall("hired", x -> x.hired(1, 0, -1), x -> x.hired(1, 7, -1),
            x -> x.hired(1, -1, -1), x -> x.hired(1, 8, -1), x -> x.hired(1, LEAST, -1), x -> x.hired(1, MOST, -1));
        personCall("cross", x -> x.cross(0, 0), x -> x.cross(7, 0),
            x -> x.cross(-1, 0), x -> x.cross(8, 0), x -> x.cross(LEAST, 0), x -> x.cross(MOST, 0));
        personCall("unseen", x -> x.unseen(0), x -> x.unseen(7),
            x -> x.unseen(-1), x -> x.unseen(8), x -> x.unseen(LEAST), x -> x.unseen(MOST));
        personCall("sight", x -> x.sight(0, 0, true), x -> x.sight(0, 7, true),
            x -> x.sight(0, -1, true), x -> x.sight(0, 8, true), x -> x.sight(0, LEAST, true), x -> x.sight(0, MOST, true));
        personCall("alibi", x -> x.alibi(0), x -> x.alibi(7),
            x -> x.alibi(-1), x -> x.alibi(8), x -> x.alibi(LEAST), x -> x.alibi(MOST));
        personCall("gone", x -> x.gone(0), x -> x.gone(7), x -> x.gone(-1), x -> x.gone(8), x -> x.gone(LEAST), x -> x.gone(MOST));
        personCall("drawn", x -> x.drawn(0, 0, 0), x -> x.drawn(0, 0, 7),
            x -> x.drawn(0, 0, -2), x -> x.drawn(0, 0, 8), x -> x.drawn(0, 0, LEAST), x -> x.drawn(0, 0, MOST));
        NineNames x = Check.object(9, 0, "AhHa");
        C.due("A is 0", x.stands(1, 0), 0);
        C.due("H is 7", x.stands(3, 0), 7);
        C.due("h is 7", x.read(7), 0b1);
        C.due("a is 0", x.read(0), 0b10000001);
        places();
    }

    private static void personCall(String name, Call first, Call last, Call... nobody) {
        C.due(name + " of 0", first.on(Check.object(9, 0, "AhHa")) >= 0);
        C.due(name + " of 7", last.on(Check.object(9, 0, "AhHa")) >= 0);
        for (Call call : nobody) {
            C.due(name + " of nobody", call.on(Check.object(9, 0, "AhHa")), UNKNOWN);
        }
    }

    private static void places() {
        C.part("\"THE BOARD has LONG places (1 to 9; 9 at first)\"");
        NineNames nine = new NineNames();
        Check.say(nine, "ABCDEFGHA");
        C.due("nine stand", nine.stands(-1, 8), 0);
        nine.say('B');
        C.due("nine stand, not ten", nine.stands(-1, 8), 1);
        for (int length = 1; length <= 9; length++) {
            NineNames x = Check.object(length, 0, LETTERS.substring(0, length));
            C.due(length + " places, as many cross", x.stands(-1, length - 1), 0);
            x.say(LETTERS.charAt(length));
            C.due(length + " places, one more crosses", x.stands(-1, length - 1), 1);
            for (int place = length; place < 9; place++) {
                C.due(length + " places, place " + place, x.stands(-1, place), NONE);
            }
        }
        C.part("\"the newest name first\"");
        C.due("the newest", Check.object(2, 0, "AB").stands(-1, 0), 1);
        C.due("the older one", Check.object(2, 0, "AB").stands(-1, 1), 0);
        C.part("\"at the beginning of a DAY nothing stands there\"");
        NineNames wiped = Check.object(9, 0, LETTERS);
        for (int place = 0; place < 9; place++) {
            C.due("a DAY with names behind, place " + place, wiped.stands(0, place), NONE);
        }
        wiped.wipe();
        for (int place = 0; place < 9; place++) {
            C.due("a new object, place " + place, new NineNames().stands(-1, place), NONE);
            C.due("a wiped PAD, place " + place, wiped.stands(-1, place), NONE);
        }
        wiped.say('a');
        C.due("who looks on a new DAY", wiped.read(0), 0);
    }

    private static void laws() {
        C.part("\"0 (at first): who crosses is written as the newest, the others move on, the last one goes out\"");
        NineNames first = new NineNames();
        Check.say(first, "AA");
        C.due("a name stands twice at first", first.stands(-1, 1), 0);
        C.due("the last one goes out, by its own name, too", Check.object(2, 0, "AAA").out(0), 2);
        C.due("one place", Check.object(1, 0, "AA").out(0), 1);
        C.due("not ahead of the last place", Check.object(2, 0, "AB").out(0), NONE);
        C.part("\"1: likewise, but if the name stands there already it goes from there first\"");
        C.due("the newest again", Check.object(3, 1, "AA").stands(-1, 0), 0);
        C.due("the newest again", Check.object(3, 1, "AA").stands(-1, 1), NONE);
        C.due("one place, the same", Check.object(1, 1, "AA").stands(-1, 0), 0);
        C.due("one place, another", Check.object(1, 1, "AB").stands(-1, 0), 1);
        stand("from the last place of a full BOARD: none goes out", Check.object(3, 1, "ABCA"), 0, 2, 1);
        stand("from the middle", Check.object(3, 1, "ABCB"), 1, 2, 0);
        stand("it stands there no more", Check.object(2, 1, "ABCA"), 0, 2);
        stand("one more than there are places", Check.object(3, 1, "ABCD"), 3, 2, 1);
        stand("all PEOPLE, again and again", Check.object(9, 1, LETTERS), 7, 6, 5, 4, 3, 2, 1, 0, NONE);
        C.part("\"2: likewise as 0, but then what stands at the middle place ((LONG and 1) by 2, cut, counted from 1 on) is rubbed out\"");
        for (int length = 1; length <= 9; length++) {
            int middle = MIDDLE[length];
            NineNames x = Check.object(length, 2, LETTERS.substring(0, middle - 1));
            C.due(length + " places, nobody is at the middle yet", x.stood(length), (1 << middle - 1) - 1);
            x.say(LETTERS.charAt(middle - 1));
            C.due(length + " places, the first one came to the middle", x.out(0), middle - 1);
            C.due(length + " places, the others stay", x.stood(length), (1 << middle) - 2);
            C.due(length + " places, nobody at the middle", x.stands(-1, middle - 1), NONE);
        }
        stand("a name twice", Check.object(5, 2, "AA"), 0, 0, NONE);
        stand("no name goes by its own law", Check.object(5, 2, "ABA"), 0, 1, NONE);
    }

    /** Who stands at the first places. */
    private static void stand(String what, NineNames x, int... names) {
        for (int place = 0; place < names.length; place++) {
            C.due(what + ", place " + place, x.stands(-1, place), names[place]);
        }
    }

    private static void days() {
        C.part("\"A DAY is a text on a PAD of up to 40 signs\"");
        NineNames full = Check.object(9, 0, "A".repeat(39));
        C.due("the 40th", full.say('B'), 40);
        C.due("the 41st", full.say('C'), FULL);
        C.due("the 40th counts", full.stands(40, 0), 1);
        C.due("the 41st does not", full.stands(-1, 0), 1);
        C.due("there are no 41", full.stands(41, 0), OUTSIDE);
        C.part("\"(codes 33 to 126)\"");
        for (int sign = -300; sign <= 700; sign++) {
            C.due("say(" + sign + ")", new NineNames().say(sign), sign >= 33 && sign <= 126 ? 1 : OUTSIDE);
        }
        for (int sign : new int[] {65 + 65536, 65 - 65536, LEAST, LEAST + 65, MOST}) {
            C.due("say(" + sign + ")", new NineNames().say(sign), OUTSIDE);
        }
        signs();
        C.part("\"EVENTS are its signs, from 0 on\"");
        NineNames x = Check.object(9, 0, "aAbB");
        C.due("looks are EVENTS, too", x.stands(3, 0), 0);
        C.due("the EVENT of the first that is MISSED", x.missed(0), 3);
        C.due("EVENT 0 is a look", x.out(0), OUTSIDE);
        C.due("EVENT 1 is a crossing", x.out(1), NONE);
    }

    private static void signs() {
        C.part("\"A to H (crosses), a to h (looks up: has read what stands there then), ? (somebody crosses who is not told: 4 at most)\"");
        for (int sign = 33; sign <= 126; sign++) {
            boolean good = sign >= 'A' && sign <= 'H' || sign >= 'a' && sign <= 'h' || sign == '?';
            C.due("code " + sign + " as the only sign", Check.object(9, 0, "" + (char) sign).fault(), good ? NONE : 0);
            C.due("code " + sign + " as the 40th sign", Check.object(9, 0, "a".repeat(39) + (char) sign).fault(), good ? NONE : 39);
        }
        C.due("four ?", Check.object(9, 0, "????").fault(), NONE);
        C.due("four ? among others", Check.object(9, 0, "A?b?C?d?").fault(), NONE);
        C.due("five ?", Check.object(9, 0, "?????").fault(), 4);
        C.due("five ? among others", Check.object(9, 0, "A?b?C?d?E?").fault(), 9);
        NineNames again = Check.object(9, 0, "????");
        again.wipe();
        Check.say(again, "????");
        C.due("four ? on a new DAY", again.fault(), NONE);
        C.part("\"THE FAULT: the place of the first sign that can not stand there\"");
        C.due("of two", Check.object(9, 0, "A!B!").fault(), 1);
        C.due("a wrong sign ahead of the fifth ?", Check.object(9, 0, "????!?").fault(), 4);
        C.due("the fifth ? ahead of a wrong sign", Check.object(9, 0, "?????!").fault(), 4);
        C.due("the sixth ? is not the first", Check.object(9, 0, "??????").fault(), 4);
        C.due("an empty DAY", new NineNames().fault(), NONE);
    }

    // ---- 2

    private static void reading() {
        C.part("\"what stands at a place behind it; behind so many EVENTS\"");
        NineNames x = Check.object(2, 0, "ABC");
        int[] newest = {NONE, 0, 1, 2};
        for (int events = 0; events <= 3; events++) {
            C.due("behind " + events, x.stands(events, 0), newest[events]);
        }
        C.due("behind all", x.stands(-1, 0), 2);
        C.part("\"READ of a PERSON: whose names it has read, as bits\"");
        C.due("the first and the last bit", Check.object(9, 0, "AHb").read(1), 0b10000001);
        C.due("all", Check.object(9, 0, "ABCDEFGHb").read(1), 255);
        C.due("who crosses behind the look is not read", Check.object(9, 0, "AbB").read(1), 0b1);
        C.due("who went out by the crossing ahead of the look is not read", Check.object(1, 0, "ABb").read(1), 0b10);
        C.due("nothing stands there", Check.object(9, 0, "b").read(1), 0);
        C.part("\"MISSED: crossings whose own writing stood there at no look behind them: how many; the EVENT of the i-th\"");
        C.due("a look right behind it", Check.object(9, 0, "Aa").missed(-1), 0);
        C.due("a look right ahead of it", Check.object(9, 0, "aA").missed(-1), 1);
        C.due("a look when it went out just then", Check.object(1, 0, "ABa").missed(0), 0);
        C.due("a look when it stands at the last place", Check.object(2, 0, "ABa").missed(-1), 0);
        C.due("the name is read, not its own writing", Check.object(1, 0, "AAa").missed(-1), 1);
        C.due("it went from there first", Check.object(9, 1, "AAa").missed(0), 0);
        C.due("it is rubbed out at once", Check.object(2, 2, "Aa").missed(0), 0);
        C.due("all of a full PAD", Check.object(9, 0, "A".repeat(40)).missed(-1), 40);
        C.due("the last of a full PAD", Check.object(9, 0, "A".repeat(40)).missed(39), 39);
        C.part("\"SEEN of a PERSON: who has read its name (itself, too), as bits\"");
        C.due("itself", Check.object(9, 0, "Aa").seen(0), 0b1);
        C.due("the first and the last bit", Check.object(9, 0, "Bah").seen(1), 0b10000001);
        C.due("all", Check.object(9, 0, "Babcdefgh").seen(1), 255);
        C.due("nobody behind it", Check.object(9, 0, "abB").seen(1), 0);
    }

    // ---- 3

    private static void boysAndCrossings() {
        C.part("\"the fewest boys in all (9 at most) by which none of the set reads the name of a PERSON\"");
        C.due("nine ahead of one look", Check.object(9, 0, "Aa").hired(1, 0, -1), 9);
        C.due("nine ahead of three", Check.object(3, 0, "AaAaAa").hired(1, 0, -1), 9);
        C.due("nine and one: too many", Check.object(9, 0, "AaABCDEFGHBa").hired(1, 0, -1), NONE);
        C.due("nine and none", Check.object(9, 0, "AaABCDEFGHBCa").hired(1, 0, -1), 9);
        C.due("only one of them looks", Check.object(5, 0, "AaAb").hired(1, 0, -1), 5);
        C.due("both of them look", Check.object(5, 0, "AaAb").hired(3, 0, -1), NONE);
        C.part("\"(of names that nobody else has, each another one)\"");
        C.due("by law 1 each boy pushes", Check.object(9, 1, "Aa").hired(1, 0, -1), 9);
        C.due("by law 1 boys of two looks push both", Check.object(4, 1, "AaAa").hired(1, 0, 1), 4);
        C.part("\"for each look of theirs, in order, how many\"");
        plan(Check.object(2, 0, "aAabABa"), 1, 0, 0, 2, 1);
        C.part("\"of several plans the one with fewest ahead of the first look, then the second, and so on\"");
        plan(Check.object(2, 0, "aaAaaAa"), 1, 0, 0, 0, 2, 0, 2);
        plan(Check.object(2, 0, "baBbaAb"), 3, 0, 0, 0, 0, 0, 2);
        C.part("\"(6 looks of theirs at most.)\"");
        C.due("six", Check.object(1, 0, "AaAaAaAaAaAa").hired(1, 0, -1), 6);
        C.due("six of several", Check.object(1, 0, "Aabcdef").hired(63, 0, -1), 1);
        C.due("six of theirs and others", Check.object(1, 0, "Aabcdefgh").hired(63, 0, -1), 1);
        C.due("seven", Check.object(1, 0, "Aaaaaaaa").hired(1, 0, -1), FULL);
        C.due("seven of several", Check.object(1, 0, "Aabcdefg").hired(127, 0, -1), FULL);
        crossings();
    }

    private static void plan(NineNames x, int lookers, int person, int... boys) {
        int all = 0;
        for (int i = 0; i < boys.length; i++) {
            C.due("ahead of look " + i, x.hired(lookers, person, i), boys[i]);
            all += boys[i];
        }
        C.due("in all", x.hired(lookers, person, -1), all);
        C.due("no such look", x.hired(lookers, person, boys.length), NONE);
    }

    private static void crossings() {
        C.part("\"CROSS: the place in the DAY (0: ahead of all EVENTS, up to behind all)\"");
        C.due("ahead of all", Check.object(1, 0, "Aa").cross(1, 0), 0);
        C.due("behind all", Check.object(9, 0, "a").cross(1, 0), 1);
        C.due("between", Check.object(1, 0, "aAb").cross(1, 0), 1);
        C.due("the only place of an empty DAY", new NineNames().cross(1, 0), 0);
        C.due("behind 39", Check.object(9, 0, "a".repeat(39)).cross(1, 0), 39);
        C.part("\"at which a PERSON who crosses once more is then read (SEEN) by fewest PEOPLE, the first\"");
        C.due("the first of two", Check.object(1, 0, "AaAa").cross(1, 0), 0);
        C.due("one of PEOPLE who looks twice is one", Check.object(1, 0, "AaaAbc").cross(0, 1), 3);
        C.due("its other crossings count", Check.object(1, 0, "Aa").cross(0, 1), 1);
        C.due("by all", Check.object(1, 0, "Aabcdefgh").cross(0, 1), 8);
        C.due("by nobody", new NineNames().cross(0, 1), 0);
        C.part("\"UNSEEN: at how many places by nobody\"");
        C.due("the only place of an empty DAY", new NineNames().unseen(0), 1);
        C.due("behind all alone", Check.object(9, 0, "a".repeat(39)).unseen(0), 1);
        C.due("at all 40", Check.object(9, 0, "A".repeat(39)).unseen(0), 40);
        C.due("at none", Check.object(9, 0, "Aa").unseen(0), 0);
    }

    private static void looks() {
        C.part("\"LOOK: the place at which one look more (of somebody) leaves fewest MISSED, the first; how many are left\"");
        look("an empty DAY", new NineNames(), 0, 0);
        look("ahead of all, as none helps", Check.object(1, 2, "AB"), 0, 2);
        look("the first of two", Check.object(1, 0, "AB"), 1, 1);
        look("behind all", Check.object(2, 0, "AB"), 2, 0);
        look("behind 39", Check.object(9, 0, "a".repeat(38) + "A"), 39, 0);
        look("39 crossings", Check.object(9, 0, "A".repeat(39)), 9, 30);
        look("those that are read do not count", Check.object(2, 0, "ABaCbDcE"), 8, 0);
        C.part("\"LOOKS: the fewest looks more, each behind some crossing, by which none is MISSED\"");
        looks("an empty DAY", new NineNames(), 0, 0);
        looks("none is missed", Check.object(1, 0, "AaBa"), 0, 0);
        looks("one", Check.object(2, 0, "AB"), 1, 0b10);
        looks("one too few places", Check.object(1, 0, "AB"), 2, 0b11);
        looks("none helps", Check.object(2, 2, "A"), NONE, NONE);
        C.part("\"of several the least as bits\"");
        looks("the first and the third, or the second and the third", Check.object(2, 0, "ABC"), 2, 0b101);
        looks("the first, or the second, and the last two", Check.object(2, 0, "ABCD"), 2, 0b1010);
        looks("any behind the third", Check.object(4, 0, "ABCaDEF"), 1, 0b100000);
        looks("fewer looks are ahead of less bits", Check.object(3, 0, "ABC"), 1, 0b100);
        C.part("\"(of the crossings of the DAY, 12 at most, from the first on)\"");
        looks("looks are not counted", Check.object(1, 0, "abcA"), 1, 0b1);
        looks("the twelfth", Check.object(1, 0, "Aa".repeat(11) + "A"), 1, 1 << 11);
        looks("the first of twelve", Check.object(1, 0, "A" + "Aa".repeat(11)), 1, 1);
        looks("all twelve", Check.object(1, 0, "A".repeat(12)), 12, 4095);
        looks("thirteen", Check.object(1, 0, "A".repeat(13)), FULL, FULL);
        looks("twelve on a full PAD", Check.object(9, 0, "A".repeat(12) + "a".repeat(28)), 1, 0b100);
    }

    private static void look(String what, NineNames x, int place, int left) {
        C.due(what + ": the place", x.look(0), place);
        C.due(what + ": left", x.look(1), left);
    }

    private static void looks(String what, NineNames x, int count, int bits) {
        C.due(what + ": how many", x.looks(0), count);
        C.due(what + ": behind which", x.looks(1), bits);
    }

    private static void lengths() {
        C.part("\"BEST LONG: LONG (1 to 9) by which fewest are MISSED, the least\"");
        best("an empty DAY: the least", new NineNames(), 1, 0);
        best("9 is among them", Check.object(1, 0, "ABCDEFGHAa"), 9, 0);
        best("10 is not", Check.object(1, 0, "ABCDEFGHABa"), 9, 1);
        best("1 is among them", Check.object(9, 0, "Aa"), 1, 0);
        best("the least of several", Check.object(9, 0, "ABa"), 2, 0);
        best("none is better", Check.object(9, 0, "A".repeat(40)), 1, 40);
        best("by law 2", Check.object(9, 2, "Aa"), 3, 0);
        best("by law 2, the four that 9 places hold", Check.object(1, 2, "ABCDa"), 9, 0);
        C.part("\"STOOD by v: whose names would stand there behind the DAY, if LONG were v, as bits\"");
        for (int v = 1; v <= 9; v++) {
            C.due("stood(" + v + ")", Check.object(9, 0, "ABCDEFGH").stood(v), 256 - (256 >> Math.min(v, 8)));
        }
        C.due("stood(0)", Check.object(9, 0, "ABCDEFGH").stood(0), OUTSIDE);
        C.due("stood(10)", Check.object(9, 0, "ABCDEFGH").stood(10), OUTSIDE);
        C.due("an empty DAY", new NineNames().stood(9), 0);
    }

    private static void best(String what, NineNames x, int length, int left) {
        C.due(what + ": LONG", x.best(0), length);
        C.due(what + ": left", x.best(1), left);
    }

    // ---- 4

    private static void sights() {
        C.part("\"ways to write a PERSON for each ? by which all SIGHTS hold\"");
        C.due("no ?", Check.object(9, 0, "A").fits(-1), 1);
        C.due("an empty DAY", new NineNames().fits(-1), 1);
        int ways = 1;
        for (int asked = 1; asked <= 4; asked++) {
            ways *= 8;
            C.due(asked + " ?", Check.object(9, 0, "?".repeat(asked)).fits(-1), ways);
        }
        C.part("\"(6 at most: behind so many EVENTS a name stood there, or did not)\"");
        NineNames six = Check.object(9, 0, "?");
        for (int person = 0; person < 6; person++) {
            C.due("a SIGHT more", six.sight(1, person, false), person + 1);
        }
        C.due("the six count", six.fits(-1), 2);
        C.due("the seventh", six.sight(1, 6, false), FULL);
        C.due("the seventh does not count", six.fits(-1), 2);
        C.due("it is G or H", six.could(0), 0b11000000);
        C.part("\"the first by letters\"");
        NineNames x = Check.object(1, 0, "??");
        C.due("A A", x.fits(0) * 8 + x.fits(1), 0);
        x.sight(2, 0, false);
        C.due("A B", x.fits(0) * 8 + x.fits(1), 1);
        x.sight(1, 0, false);
        C.due("B B", x.fits(0) * 8 + x.fits(1), 9);
        C.part("\"who can have been the i-th ?, as bits\"");
        C.due("all but A", x.could(0), 254);
        C.due("all but A", x.could(1), 254);
        x.sight(2, 7, true);
        C.due("H alone", x.could(1), 128);
        C.part("\"ALIBI: in how many of these a PERSON crosses at all\"");
        C.due("in each, as it is told", Check.object(9, 0, "A????").alibi(0), 4096);
        C.due("in all but those without it", Check.object(9, 0, "????").alibi(0), 4096 - 7 * 7 * 7 * 7);
        C.due("in none: it looks up only", Check.object(9, 0, "b").alibi(1), 0);
    }

    private static void goneAndOut() {
        C.part("\"GONE: how many boys (of names that nobody else has) must cross behind a DAY, at least\"");
        for (int length = 1; length <= 9; length++) {
            C.due("law 0, " + length + " places", Check.object(length, 0, "A").gone(0), length);
            C.due("law 1, " + length + " places", Check.object(length, 1, "A").gone(0), length);
            C.due("law 2, " + length + " places", Check.object(length, 2, "A").gone(0), MIDDLE[length] - 1);
        }
        C.due("at the last place", Check.object(3, 0, "ABC").gone(0), 1);
        C.due("of two writings the newer one counts", Check.object(3, 0, "ABA").gone(0), 3);
        C.part("\"(0: it does not now)\"");
        C.due("it went out just now", Check.object(2, 0, "ABC").gone(0), 0);
        C.due("an empty DAY", new NineNames().gone(0), 0);
        C.part("\"OUT: the EVENT by which the writing of the crossing that is EVENT e went out (or from there, or was rubbed out)\"");
        C.due("it went out", Check.object(2, 0, "AaBbC").out(0), 4);
        C.due("it stands there still", Check.object(2, 0, "AaBbC").out(2), NONE);
        C.due("it went from there", Check.object(9, 1, "AbA").out(0), 2);
        C.due("by law 1 it went out", Check.object(2, 1, "ABC").out(0), 2);
        C.due("it was rubbed out", Check.object(3, 2, "AbB").out(0), 2);
        C.due("it was rubbed out at once", Check.object(1, 2, "bA").out(1), 1);
        C.due("by the last EVENT of a full PAD", Check.object(1, 0, "A".repeat(40)).out(38), 39);
        C.due("the last EVENT of a full PAD", Check.object(1, 0, "A".repeat(40)).out(39), NONE);
    }

    private static void draws() {
        C.part("\"DRAWN by a seed (0 to 9999), behind a DAY: m crossings (0 to 99)\"");
        C.due("seed 0: 74", new NineNames().drawn(0, 1, 2), 1);
        C.due("seed 9999: 29092", new NineNames().drawn(9999, 1, 4), 1);
        C.due("seed -1", new NineNames().drawn(-1, 1, 2), OUTSIDE);
        C.due("seed 10000", new NineNames().drawn(10000, 1, 4), OUTSIDE);
        C.due("no crossing", Check.object(9, 0, "AB").drawn(0, 0, -1), 2);
        C.due("no crossing", Check.object(9, 0, "AB").drawn(0, 0, 1), 0);
        C.due("-1 crossings", new NineNames().drawn(0, -1, -1), OUTSIDE);
        C.due("100 crossings", new NineNames().drawn(0, 100, -1), OUTSIDE);
        int all = 0;
        NineNames one = Check.object(1, 0, "");
        for (int person = 0; person < 8; person++) {
            all += one.drawn(7, 99, person);
        }
        C.due("99 crossings, one place: one name behind each", all, 99);
        C.part("\"x becomes (75 x and 74) left over by 65537, x left over by 8 crosses\"");
        C.due("872: 65474 is not divided yet", new NineNames().drawn(872, 1, 2), 1);
        C.due("873: 65549 leaves 12", new NineNames().drawn(873, 1, 4), 1);
        C.due("1747: 131099 leaves 25", new NineNames().drawn(1747, 1, 1), 1);
        // From 5525 on the 16th x is 0, as 75 x and 74 is a multiple of 65537 there; the 17th is 74.
        C.due("5525: the 16th is A", one.drawn(5525, 16, 0) - one.drawn(5525, 15, 0), 1);
        C.due("5525: the 17th is C", one.drawn(5525, 17, 2) - one.drawn(5525, 16, 2), 1);
        C.part("\"how many different names stand there then, for how many crossings (of the m) a PERSON's name stood there behind them\"");
        C.due("a name that stands twice is one", Check.object(9, 0, "AAB").drawn(0, 0, -1), 2);
        C.due("all eight", Check.object(9, 0, "ABCDEFGH").drawn(0, 0, -1), 8);
        C.due("none: one place that is rubbed out", Check.object(1, 2, "A").drawn(0, 99, -1), 0);
        C.due("a told name stays for so many", Check.object(3, 0, "A").drawn(1, 3, 0), 2);
        C.due("behind them, not ahead", Check.object(1, 0, "A").drawn(1, 1, 0), 0);
    }
}
