/** One part for each promise: ordinary inputs, the edges that the document names, wrong inputs. */
public final class PromisesTest {
    private static final int UNKNOWN = -1, OUTSIDE = -2, STATE = -3, FULL = -4, NO = -5, NONE = -6;
    private static final String FORTY = "ABCDEFGHabABCDEFGHabABCDEFGHabABCDEFGHab";

    private static final Check C = new Check();

    public static void main(String[] args) {
        promise1New();
        promise2Set();
        promise3Say();
        promise4Wipe();
        promise5Fault();
        promise6Stands();
        promise7Read();
        promise8Seen();
        promise9Missed();
        promise10Hired();
        promise11Cross();
        promise12Unseen();
        promise13Look();
        promise14Looks();
        promise15Best();
        promise16Stood();
        promise17Sight();
        promise18Forget();
        promise19Fits();
        promise20Could();
        promise21Alibi();
        promise22Gone();
        promise23Out();
        promise24Drawn();
        promise25Image();
        promise26Restore();
        promise27Told();
        C.end();
    }

    private static void promise1New() {
        C.part("1 a new object");
        NineNames x = new NineNames();
        C.due("told(0)", x.told(0), 0);
        C.due("told(1)", x.told(1), 9);
        C.due("told(2)", x.told(2), 0);
        C.due("told(3)", x.told(3), 0);
        C.due("fault()", x.fault(), NONE);
        C.due("restore(0)", x.restore(0), STATE);
        C.due("restore(1)", x.restore(1), STATE);
        for (int place = 0; place < 9; place++) {
            C.due("stands(0, place)", x.stands(0, place), NONE);
        }
        Check.say(x, "ABCDEFGHAB");
        C.due("stands(-1, 8)", x.stands(-1, 8), 1);
        NineNames other = new NineNames();
        C.due("another object's told(0)", other.told(0), 0);
    }

    private static void promise2Set() {
        C.part("2 set");
        NineNames x = new NineNames();
        C.due("set(0, 1)", x.set(0, 1), 9);
        C.due("set(0, 9)", x.set(0, 9), 1);
        C.due("set(0, 4)", x.set(0, 4), 9);
        C.due("set(1, 2)", x.set(1, 2), 0);
        C.due("set(1, 1)", x.set(1, 1), 2);
        C.due("set(1, 0)", x.set(1, 0), 1);
        C.due("set(1, 2)", x.set(1, 2), 0);
        int[][] wrong = {{0, 0}, {0, 10}, {0, -1}, {1, -1}, {1, 3}, {2, 1}, {-1, 1}, {Integer.MAX_VALUE, 1}, {0, Integer.MIN_VALUE}};
        for (int[] w : wrong) {
            C.due("set(" + w[0] + ", " + w[1] + ")", x.set(w[0], w[1]), OUTSIDE);
        }
        C.due("told(1) is as before", x.told(1), 4);
        C.due("told(2) is as before", x.told(2), 2);
    }

    private static void promise3Say() {
        C.part("3 say");
        NineNames x = new NineNames();
        C.due("say(32)", x.say(32), OUTSIDE);
        C.due("say(127)", x.say(127), OUTSIDE);
        C.due("say(-65)", x.say(-65), OUTSIDE);
        C.due("say(33)", x.say(33), 1);
        C.due("say(126)", x.say(126), 2);
        for (int n = 3; n <= 40; n++) {
            C.due("say(65)", x.say(65), n);
        }
        C.due("the 41st say(65)", x.say(65), FULL);
        C.due("say(32), full", x.say(32), OUTSIDE);
        C.due("told(0)", x.told(0), 40);
    }

    private static void promise4Wipe() {
        C.part("4 wipe");
        NineNames x = Check.object(3, 1, FORTY);
        x.sight(2, 1, true);
        C.due("wipe()", x.wipe(), 40);
        C.due("wipe() again", x.wipe(), 0);
        C.due("told(0)", x.told(0), 0);
        C.due("told(1)", x.told(1), 3);
        C.due("told(2)", x.told(2), 1);
        C.due("told(3)", x.told(3), 1);
        C.due("stands(-1, 0)", x.stands(-1, 0), NONE);
        C.due("stands(1, 0)", x.stands(1, 0), OUTSIDE);
        C.due("say(66)", x.say(66), 1);
        C.due("stands(-1, 0)", x.stands(-1, 0), 1);
    }

    private static void promise5Fault() {
        C.part("5 fault");
        C.due("all signs", Check.object(9, 0, "ABCDEFGHabcdefgh????").fault(), NONE);
        C.due("forty", Check.object(9, 0, FORTY).fault(), NONE);
        for (char wrong : "@I`i!~0>".toCharArray()) {
            C.due("AB" + wrong + wrong, Check.object(9, 0, "AB" + wrong + wrong).fault(), 2);
        }
        C.due("a fifth ?", Check.object(9, 0, "????A?").fault(), 5);
        C.due("a wrong sign ahead of it", Check.object(9, 0, "???i??").fault(), 3);
    }

    private static void promise6Stands() {
        C.part("6 stands");
        NineNames x = Check.object(3, 0, "ABaACA");
        C.due("stands(-1, 0)", x.stands(-1, 0), 0);
        C.due("stands(-1, 1)", x.stands(-1, 1), 2);
        C.due("stands(-1, 2)", x.stands(-1, 2), 0);
        C.due("stands(-1, 3), beyond the board", x.stands(-1, 3), NONE);
        C.due("stands(4, 2)", x.stands(4, 2), 0);
        C.due("stands(4, 1)", x.stands(4, 1), 1);
        C.due("stands(0, 0)", x.stands(0, 0), NONE);
        C.due("stands(3, 0), behind a look", x.stands(3, 0), 1);
        C.due("stands(6, 0)", x.stands(6, 0), 0);
        C.due("stands(7, 0)", x.stands(7, 0), OUTSIDE);
        C.due("stands(-2, 0)", x.stands(-2, 0), OUTSIDE);
        C.due("stands(0, -1)", x.stands(0, -1), OUTSIDE);
        C.due("stands(0, 9)", x.stands(0, 9), OUTSIDE);
        C.due("law 1: a name once", Check.object(3, 1, "ABCA").stands(-1, 2), 1);
        C.due("law 1: the rest moves on", Check.object(3, 1, "ABCB").stands(-1, 1), 2);
        C.due("law 1: the last goes out", Check.object(2, 1, "ABC").stands(-1, 1), 1);
        C.due("law 2: the middle of 9 is the fifth", Check.object(9, 2, "ABCDE").stands(-1, 4), NONE);
        C.due("law 2: four stand", Check.object(9, 2, "ABCDE").stands(-1, 3), 1);
        C.due("law 2: the middle of 4 is the second", Check.object(4, 2, "AB").stands(-1, 1), NONE);
        C.due("law 2: the middle of 3 is the second", Check.object(3, 2, "AB").stands(-1, 0), 1);
        C.due("law 2: the middle of 1", Check.object(1, 2, "AB").stands(-1, 0), NONE);
        NineNames asked = Check.object(9, 0, "AB?C");
        C.due("stands(2, 1)", asked.stands(2, 1), 0);
        C.due("stands(3, 1)", asked.stands(3, 1), STATE);
        C.due("stands(-1, 0)", asked.stands(-1, 0), STATE);
        C.due("a ? ahead of all", Check.object(9, 0, "?A").stands(1, 0), STATE);
        C.due("a ? ahead of all, nothing asked", Check.object(9, 0, "?A").stands(0, 0), NONE);
        C.due("stands(3, 9)", asked.stands(3, 9), OUTSIDE);
        asked.say('z');
        C.due("stands(3, 1), a fault", asked.stands(3, 1), NO);
        C.due("stands(1, 0), a fault behind", asked.stands(1, 0), NO);
        C.due("stands(6, 0), a fault", asked.stands(6, 0), OUTSIDE);
    }

    /** What calls of a day without ? and without a fault answer if there is one. */
    private static void dayRefusals(Call call) {
        C.due("with ?", call.on(Check.object(9, 0, "A?a")), STATE);
        C.due("with a fault", call.on(Check.object(9, 0, "Ai")), NO);
        C.due("with ? and a fault", call.on(Check.object(9, 0, "A?ai")), NO);
        C.due("with five ?", call.on(Check.object(9, 0, "?????")), NO);
    }

    private static void promise7Read() {
        C.part("7 read");
        NineNames x = Check.object(2, 0, "aABCaDbA");
        C.due("read(0)", x.read(0), 0b110);
        C.due("read(1)", x.read(1), 0b1100);
        C.due("read(2), who has not looked", x.read(2), 0);
        C.due("two looks of one", Check.object(1, 0, "AaBa").read(0), 0b11);
        C.due("a look ahead of all", Check.object(1, 0, "aA").read(0), 0);
        C.due("read(-1)", x.read(-1), UNKNOWN);
        C.due("read(8)", x.read(8), UNKNOWN);
        x.set(1, 2);
        C.due("read(0), nothing ever stands", x.read(0), 0);
        C.due("its own name", Check.object(9, 1, "Hh").read(7), 128);
        dayRefusals(n -> n.read(0));
        C.due("read(8) with a fault", Check.object(9, 0, "i").read(8), UNKNOWN);
    }

    private static void promise8Seen() {
        C.part("8 seen");
        NineNames x = Check.object(2, 0, "AaBbCcAh");
        C.due("seen(0)", x.seen(0), 0b10000011);
        C.due("seen(1)", x.seen(1), 0b110);
        C.due("seen(2)", x.seen(2), 0b10000100);
        C.due("seen(3)", x.seen(3), 0);
        C.due("seen(-1)", x.seen(-1), UNKNOWN);
        C.due("seen(8)", x.seen(8), UNKNOWN);
        dayRefusals(n -> n.seen(7));
    }

    private static void promise9Missed() {
        C.part("9 missed");
        NineNames x = Check.object(2, 0, "ABCaDAE");
        C.due("missed(-1)", x.missed(-1), 4);
        C.due("missed(0)", x.missed(0), 0);
        C.due("missed(1)", x.missed(1), 4);
        C.due("missed(3)", x.missed(3), 6);
        C.due("missed(4)", x.missed(4), NONE);
        C.due("missed(-2)", x.missed(-2), NONE);
        C.due("missed(least)", x.missed(Integer.MIN_VALUE), NONE);
        NineNames twice = Check.object(9, 1, "ABAa");
        C.due("the own writing counts", twice.missed(-1), 1);
        C.due("it is the first", twice.missed(0), 0);
        C.due("none", Check.object(9, 0, "ABAa").missed(-1), 0);
        C.due("no crossing", Check.object(9, 0, "abc").missed(-1), 0);
        C.due("no crossing", Check.object(9, 0, "abc").missed(0), NONE);
        C.due("event 39", Check.object(9, 0, FORTY.substring(0, 39) + "H").missed(0), 39);
        dayRefusals(n -> n.missed(-1));
        dayRefusals(n -> n.missed(99));
    }

    private static void promise10Hired() {
        C.part("10 hired");
        NineNames x = Check.object(3, 0, "AbBaAb");
        C.due("hired(2, 0, -1)", x.hired(2, 0, -1), 6);
        C.due("hired(2, 0, 0)", x.hired(2, 0, 0), 3);
        C.due("hired(2, 0, 1)", x.hired(2, 0, 1), 3);
        C.due("hired(2, 0, 2)", x.hired(2, 0, 2), NONE);
        C.due("hired(2, 0, -2)", x.hired(2, 0, -2), NONE);
        C.due("hired(3, 0, -1)", x.hired(3, 0, -1), 6);
        C.due("hired(3, 0, 1), gone by then", x.hired(3, 0, 1), 0);
        C.due("hired(1, 0, -1)", x.hired(1, 0, -1), 2);
        C.due("hired(255, 1, 1)", x.hired(255, 1, 1), 3);
        C.due("hired(128, 0, -1), nobody looks", x.hired(128, 0, -1), 0);
        C.due("hired(0, 0, -1)", x.hired(0, 0, -1), OUTSIDE);
        C.due("hired(256, 0, -1)", x.hired(256, 0, -1), OUTSIDE);
        C.due("hired(1, 8, -1)", x.hired(1, 8, -1), UNKNOWN);
        C.due("hired(0, -1, -1)", x.hired(0, -1, -1), UNKNOWN);
        C.due("nine are enough", Check.object(9, 0, "Aa").hired(1, 0, -1), 9);
        NineNames ten = Check.object(5, 0, "AaAa");
        C.due("ten are needed", ten.hired(1, 0, -1), NONE);
        C.due("ten are needed: the first look", ten.hired(1, 0, 0), NONE);
        C.due("boys stand each for itself by law 1", Check.object(4, 1, "AaBa").hired(1, 0, -1), 4);
        C.due("law 2", Check.object(9, 2, "Aa").hired(1, 0, -1), 4);
        C.due("six looks", Check.object(2, 0, "Aababab").hired(3, 0, -1), 2);
        C.due("seven looks", Check.object(2, 0, "Aabababa").hired(3, 0, -1), FULL);
        C.due("seven looks, one ahead of all", Check.object(2, 0, "aAababab").hired(3, 0, -1), FULL);
        C.due("seven looks, four of theirs", Check.object(2, 0, "Aabababa").hired(1, 0, 3), 0);
        dayRefusals(n -> n.hired(1, 0, -1));
        C.due("NO ahead of FULL", Check.object(2, 0, "aaaaaaaai").hired(1, 0, -1), NO);
        C.due("STATE ahead of FULL", Check.object(2, 0, "aaaaaaaa?").hired(1, 0, -1), STATE);
    }

    private static void promise11Cross() {
        C.part("11 cross");
        NineNames x = Check.object(1, 0, "aAbcaBd");
        C.due("cross(7, 0)", x.cross(7, 0), 1);
        C.due("cross(7, 1)", x.cross(7, 1), 0);
        C.due("the told ones count too", x.cross(0, 1), 3);
        C.due("the first of these", x.cross(0, 0), 0);
        C.due("behind all", Check.object(9, 0, "ab").cross(0, 0), 2);
        C.due("ahead of all", Check.object(9, 0, "Aa").cross(0, 0), 0);
        C.due("read by all at every place", Check.object(1, 0, "AabcdefghA").cross(0, 1), 8);
        C.due("read by all at every place", Check.object(1, 0, "AabcdefghA").cross(0, 0), 0);
        C.due("two looks of one", Check.object(9, 0, "Aaa").cross(0, 1), 1);
        NineNames moved = Check.object(1, 0, "Aa");
        C.due("a crossing more pushes others out", moved.cross(1, 0), 0);
        C.due("cross(-1, 0)", x.cross(-1, 0), UNKNOWN);
        C.due("cross(8, 2)", x.cross(8, 2), UNKNOWN);
        C.due("cross(0, 2)", x.cross(0, 2), OUTSIDE);
        C.due("cross(0, -1)", x.cross(0, -1), OUTSIDE);
        dayRefusals(n -> n.cross(0, 0));
        dayRefusals(n -> n.cross(0, 1));
        C.due("39", Check.object(9, 0, FORTY.substring(1)).cross(0, 1), 2);
        C.due("40", Check.object(9, 0, FORTY).cross(0, 0), FULL);
        C.due("40 with ?", Check.object(9, 0, FORTY.substring(1) + "?").cross(0, 0), STATE);
        C.due("40 with a fault", Check.object(9, 0, FORTY.substring(1) + "!").cross(0, 0), NO);
        C.due("the day is as before", x.told(0), 7);
    }

    private static void promise12Unseen() {
        C.part("12 unseen");
        NineNames x = Check.object(1, 0, "aAbcaBd");
        C.due("unseen(7)", x.unseen(7), 3);
        C.due("unseen(0)", x.unseen(0), 0);
        C.due("no looks", Check.object(9, 0, "AB").unseen(0), 3);
        C.due("empty", Check.object(9, 0, "").unseen(0), 1);
        C.due("unseen(8)", x.unseen(8), UNKNOWN);
        C.due("unseen(-1)", x.unseen(-1), UNKNOWN);
        dayRefusals(n -> n.unseen(0));
        C.due("40", Check.object(9, 0, FORTY).unseen(0), FULL);
        C.due("40 with ?", Check.object(9, 0, FORTY.substring(1) + "?").unseen(0), STATE);
    }

    private static void promise13Look() {
        C.part("13 look");
        NineNames x = Check.object(3, 0, "ABCaDEFGH");
        C.due("look(0)", x.look(0), 7);
        C.due("look(1)", x.look(1), 2);
        C.due("nothing is missed", Check.object(3, 0, "ABa").look(0), 0);
        C.due("nothing is missed", Check.object(3, 0, "ABa").look(1), 0);
        C.due("behind all", Check.object(9, 0, "AB").look(0), 2);
        C.due("behind the first", Check.object(1, 0, "AB").look(0), 1);
        C.due("nothing ever stands", Check.object(2, 2, "AB").look(0), 0);
        C.due("nothing ever stands", Check.object(2, 2, "AB").look(1), 2);
        C.due("look(2)", x.look(2), OUTSIDE);
        C.due("look(-1)", x.look(-1), OUTSIDE);
        dayRefusals(n -> n.look(0));
        C.due("40", Check.object(9, 0, FORTY).look(0), FULL);
        C.due("40 with ?", Check.object(9, 0, FORTY.substring(1) + "?").look(1), STATE);
        C.due("40, look(2)", Check.object(9, 0, FORTY).look(2), OUTSIDE);
    }

    private static void promise14Looks() {
        C.part("14 looks");
        NineNames x = Check.object(2, 0, "ABaCDEF");
        C.due("looks(0)", x.looks(0), 2);
        C.due("looks(1)", x.looks(1), 0b101000);
        NineNames three = Check.object(2, 0, "ABC");
        C.due("looks(0)", three.looks(0), 2);
        C.due("looks(1), the least of several", three.looks(1), 0b101);
        C.due("none is missed", Check.object(2, 0, "ABa").looks(0), 0);
        C.due("none is missed", Check.object(2, 0, "ABa").looks(1), 0);
        C.due("not by these", Check.object(1, 2, "A").looks(0), NONE);
        C.due("not by these", Check.object(1, 2, "A").looks(1), NONE);
        C.due("law 2, no crossing", Check.object(1, 2, "a").looks(1), 0);
        C.due("twelve", Check.object(1, 0, "ABCDEFGHABCD").looks(0), 12);
        C.due("twelve", Check.object(1, 0, "ABCDEFGHABCD").looks(1), 4095);
        C.due("thirteen", Check.object(1, 0, "ABCDEFGHABCDE").looks(0), FULL);
        C.due("thirteen that are seen", Check.object(9, 0, "ABCDEFGHaABCDEb").looks(0), FULL);
        C.due("looks(2)", x.looks(2), OUTSIDE);
        C.due("looks(-1)", x.looks(-1), OUTSIDE);
        dayRefusals(n -> n.looks(0));
        C.due("thirteen and a ?", Check.object(1, 0, "ABCDEFGHABCDE?").looks(0), STATE);
    }

    private static void promise15Best() {
        C.part("15 best");
        NineNames x = Check.object(9, 0, "ABCaDEaF");
        C.due("best(0)", x.best(0), 3);
        C.due("best(1)", x.best(1), 1);
        C.due("told(1) is as before", x.told(1), 9);
        NineNames rubbed = Check.object(1, 2, "ABCa");
        C.due("by law 2", rubbed.best(0), 7);
        C.due("by law 2", rubbed.best(1), 0);
        C.due("empty", Check.object(4, 0, "").best(0), 1);
        C.due("nine", Check.object(4, 0, "ABCDEFGHAa").best(0), 9);
        C.due("nine", Check.object(4, 0, "ABCDEFGHAa").best(1), 0);
        C.due("forty are missed", Check.object(4, 0, FORTY.toUpperCase()).best(1), 40);
        C.due("forty are missed", Check.object(4, 0, FORTY.toUpperCase()).best(0), 1);
        C.due("empty", Check.object(4, 0, "").best(1), 0);
        C.due("best(2)", x.best(2), OUTSIDE);
        C.due("best(-1)", x.best(-1), OUTSIDE);
        dayRefusals(n -> n.best(0));
    }

    private static void promise16Stood() {
        C.part("16 stood");
        NineNames x = Check.object(1, 0, "ABCAD");
        C.due("stood(1)", x.stood(1), 0b1000);
        C.due("stood(2)", x.stood(2), 0b1001);
        C.due("stood(3)", x.stood(3), 0b1101);
        C.due("stood(4)", x.stood(4), 0b1111);
        C.due("stood(9)", x.stood(9), 0b1111);
        C.due("law 1", Check.object(9, 1, "ABABC").stood(3), 0b111);
        C.due("law 2", Check.object(9, 2, "ABCD").stood(5), 0b1100);
        C.due("stood(0)", x.stood(0), OUTSIDE);
        C.due("stood(10)", x.stood(10), OUTSIDE);
        C.due("told(1) is as before", x.told(1), 1);
        dayRefusals(n -> n.stood(1));
        C.due("stood(0) with a fault", Check.object(1, 0, "i").stood(0), OUTSIDE);
    }

    private static void promise17Sight() {
        C.part("17 sight");
        NineNames x = new NineNames();
        C.due("sight(0, 0, true)", x.sight(0, 0, true), 1);
        C.due("sight(40, 7, false)", x.sight(40, 7, false), 2);
        C.due("sight(41, 0, true)", x.sight(41, 0, true), OUTSIDE);
        C.due("sight(-1, 0, true)", x.sight(-1, 0, true), OUTSIDE);
        C.due("sight(-1, 8, true)", x.sight(-1, 8, true), UNKNOWN);
        C.due("sight(0, -1, true)", x.sight(0, -1, true), UNKNOWN);
        for (int n = 3; n <= 6; n++) {
            C.due("sight(0, 0, true), twice the same", x.sight(0, 0, true), n);
        }
        C.due("the seventh", x.sight(1, 1, true), FULL);
        C.due("the seventh, outside", x.sight(41, 1, true), OUTSIDE);
        C.due("told(3)", x.told(3), 6);
        x.say('!');
        x.forget();
        C.due("a fault is no matter", x.sight(5, 5, true), 1);
    }

    private static void promise18Forget() {
        C.part("18 forget");
        NineNames x = Check.object(9, 0, "?");
        x.sight(1, 0, true);
        x.sight(1, 1, true);
        C.due("fits(-1)", x.fits(-1), 0);
        C.due("forget()", x.forget(), 2);
        C.due("forget()", x.forget(), 0);
        C.due("told(3)", x.told(3), 0);
        C.due("fits(-1)", x.fits(-1), 8);
        C.due("told(0)", x.told(0), 1);
    }

    private static void promise19Fits() {
        C.part("19 fits");
        NineNames x = Check.object(2, 0, "??A?");
        C.due("fits(-1)", x.fits(-1), 512);
        x.sight(2, 3, true);
        C.due("fits(-1)", x.fits(-1), 15 * 8);
        C.due("fits(0)", x.fits(0), 0);
        C.due("fits(1)", x.fits(1), 3);
        C.due("fits(2)", x.fits(2), 0);
        C.due("fits(3)", x.fits(3), NONE);
        C.due("fits(-2)", x.fits(-2), NONE);
        x.sight(1, 0, false);
        x.sight(4, 7, true);
        C.due("fits(-1)", x.fits(-1), 14);
        C.due("fits(0)", x.fits(0), 1);
        C.due("fits(2)", x.fits(2), 7);
        x.sight(5, 0, true);
        C.due("a sight behind more events does not count", x.fits(-1), 14);
        x.say('C');
        C.due("now it does", x.fits(-1), 0);
        C.due("none: no first", x.fits(0), NONE);
        x.set(0, 9);
        C.due("by another length: the D and an H, or an H behind", x.fits(-1), 2 * 8 + 12);
        x.set(1, 2);
        x.set(0, 3);
        C.due("by another law", x.fits(-1), 0);
        C.due("no ?", Check.object(9, 0, "AB").fits(-1), 1);
        C.due("no ?", Check.object(9, 0, "AB").fits(0), NONE);
        C.due("four", Check.object(9, 0, "????").fits(-1), 4096);
        C.due("five", Check.object(9, 0, "?????").fits(-1), NO);
        C.due("a fault", Check.object(9, 0, "?i").fits(99), NO);
        NineNames once = Check.object(2, 1, "AB?");
        once.sight(3, 0, true);
        C.due("law 1: A again, or B again", once.fits(-1), 2);
        once.set(1, 0);
        C.due("law 0 from now on", once.fits(-1), 1);
        NineNames forty = Check.object(9, 0, FORTY.substring(1) + "?");
        forty.sight(40, 0, true);
        C.due("a sight behind forty events", forty.fits(-1), 8);
        forty.sight(40, 3, false);
        C.due("a sight behind forty events", forty.fits(-1), 0);
        forty.forget();
        forty.sight(0, 3, false);
        C.due("a sight behind no events", forty.fits(-1), 8);
        forty.sight(0, 3, true);
        C.due("a sight behind no events", forty.fits(-1), 0);
        forty.forget();
        C.due("nothing is left of it", forty.fits(-1), 8);
        NineNames pushed = Check.object(2, 0, "?AB");
        pushed.sight(3, 0, true);
        pushed.sight(3, 1, true);
        C.due("as many cross behind it as there are places", pushed.fits(-1), 8);
        pushed.sight(3, 2, true);
        C.due("so it stands there no more", pushed.fits(-1), 0);
        NineNames row = Check.object(3, 1, "A?BAB");
        row.sight(5, 2, true);
        row.sight(2, 0, true);
        C.due("law 1: some cross again behind the ?", row.fits(-1), 1);
        C.due("law 1: some cross again behind the ?", row.fits(0), 2);
    }

    private static void promise20Could() {
        C.part("20 could");
        NineNames x = Check.object(2, 0, "??A?");
        C.due("could(0)", x.could(0), 255);
        C.due("could(3)", x.could(3), NONE);
        C.due("could(-1)", x.could(-1), NONE);
        x.sight(2, 3, true);
        x.sight(2, 4, true);
        C.due("could(0)", x.could(0), 0b11000);
        C.due("could(1)", x.could(1), 0b11000);
        C.due("could(2)", x.could(2), 255);
        x.sight(1, 3, false);
        C.due("could(0)", x.could(0), 0b10000);
        C.due("could(1)", x.could(1), 0b1000);
        x.sight(0, 1, true);
        C.due("none fits", x.could(0), 0);
        C.due("none fits, no such ?", x.could(3), NONE);
        x.wipe();
        C.due("no ?", x.could(0), NONE);
        C.due("a fault", Check.object(9, 0, "?i").could(0), NO);
        C.due("a fault, no such ?", Check.object(9, 0, "?i").could(7), NO);
    }

    private static void promise21Alibi() {
        C.part("21 alibi");
        NineNames x = Check.object(9, 0, "A??");
        C.due("alibi(0), told", x.alibi(0), 64);
        C.due("alibi(1)", x.alibi(1), 15);
        C.due("two are told", Check.object(9, 0, "AB?").alibi(0), 8);
        C.due("two are told", Check.object(9, 0, "AB?").alibi(1), 8);
        x.sight(3, 1, false);
        C.due("alibi(1)", x.alibi(1), 0);
        C.due("alibi(2)", x.alibi(2), 13);
        x.sight(2, 2, true);
        C.due("alibi(2)", x.alibi(2), 7);
        C.due("alibi(0), counted anew", x.alibi(0), 7);
        C.due("alibi(3)", x.alibi(3), 1);
        C.due("alibi(8)", x.alibi(8), UNKNOWN);
        C.due("alibi(-1)", x.alibi(-1), UNKNOWN);
        C.due("a look is no crossing", Check.object(9, 0, "b").alibi(1), 0);
        C.due("no ?", Check.object(9, 0, "Bb").alibi(1), 1);
        C.due("no ?, not there", Check.object(9, 0, "Bb").alibi(0), 0);
        C.due("a fault", Check.object(9, 0, "Ai").alibi(0), NO);
        C.due("a fault, nobody", Check.object(9, 0, "Ai").alibi(8), UNKNOWN);
    }

    private static void promise22Gone() {
        C.part("22 gone");
        NineNames x = Check.object(4, 0, "ABCAD");
        C.due("gone(0)", x.gone(0), 3);
        C.due("gone(1)", x.gone(1), 1);
        C.due("gone(3)", x.gone(3), 4);
        C.due("gone(7)", x.gone(7), 0);
        C.due("nine", Check.object(9, 0, "A").gone(0), 9);
        C.due("law 1", Check.object(9, 1, "ABAC").gone(1), 7);
        C.due("law 2", Check.object(8, 2, "AB").gone(0), 2);
        C.due("gone(8)", x.gone(8), UNKNOWN);
        C.due("gone(-1)", x.gone(-1), UNKNOWN);
        dayRefusals(n -> n.gone(0));
    }

    private static void promise23Out() {
        C.part("23 out");
        NineNames x = Check.object(2, 0, "ABaCDb");
        C.due("out(0)", x.out(0), 3);
        C.due("out(1)", x.out(1), 4);
        C.due("out(3)", x.out(3), NONE);
        C.due("out(2), a look", x.out(2), OUTSIDE);
        C.due("out(6)", x.out(6), OUTSIDE);
        C.due("out(-1)", x.out(-1), OUTSIDE);
        C.due("out(most)", x.out(Integer.MAX_VALUE), OUTSIDE);
        C.due("law 1: from there", Check.object(9, 1, "ABA").out(0), 2);
        C.due("law 1: it stands there still", Check.object(9, 1, "ABA").out(2), NONE);
        C.due("law 2: rubbed out", Check.object(5, 2, "ABC").out(0), 2);
        C.due("law 2: at once", Check.object(1, 2, "aABC").out(1), 1);
        C.due("? ahead of OUTSIDE", Check.object(9, 0, "a?").out(0), STATE);
        C.due("a fault ahead of OUTSIDE", Check.object(9, 0, "ai").out(0), NO);
        C.due("a fault ahead of OUTSIDE", Check.object(9, 0, "ai").out(9), NO);
        dayRefusals(n -> n.out(0));
    }

    private static void promise24Drawn() {
        C.part("24 drawn");
        // From 1: 149, 11249, 57305 are 5, 1, 1 left over by 8.
        NineNames x = new NineNames();
        C.due("drawn(1, 1, 5)", x.drawn(1, 1, 5), 1);
        C.due("drawn(1, 3, -1)", x.drawn(1, 3, -1), 2);
        C.due("drawn(1, 3, 5)", x.drawn(1, 3, 5), 3);
        C.due("drawn(1, 3, 1)", x.drawn(1, 3, 1), 2);
        C.due("drawn(1, 0, -1)", x.drawn(1, 0, -1), 0);
        // From 0: 74, 5624 are 2, 0 left over by 8; from 9999: 29092 is 4.
        C.due("drawn(0, 2, 2)", x.drawn(0, 2, 2), 2);
        C.due("drawn(0, 2, 0)", x.drawn(0, 2, 0), 1);
        C.due("drawn(9999, 1, 4)", x.drawn(9999, 1, 4), 1);
        C.due("drawn(1, 99, 5) is no refusal", x.drawn(1, 99, 5) > 0);
        C.due("drawn(1, 0, 5)", x.drawn(1, 0, 5), 0);
        NineNames two = Check.object(2, 0, "AB");
        C.due("behind the day", two.drawn(1, 3, 1), 3);
        C.due("behind the day", two.drawn(1, 3, 0), 0);
        C.due("behind the day", two.drawn(1, 0, -1), 2);
        C.due("behind the day", two.drawn(1, 3, 5), 2);
        C.due("the day is as before", two.stands(-1, 0), 1);
        C.due("drawn(-1, 0, 0)", x.drawn(-1, 0, 0), OUTSIDE);
        C.due("drawn(10000, 0, 0)", x.drawn(10000, 0, 0), OUTSIDE);
        C.due("drawn(0, -1, 0)", x.drawn(0, -1, 0), OUTSIDE);
        C.due("drawn(0, 100, 0)", x.drawn(0, 100, 0), OUTSIDE);
        C.due("drawn(-1, 0, -2)", x.drawn(-1, 0, -2), UNKNOWN);
        C.due("drawn(0, 0, 8)", x.drawn(0, 0, 8), UNKNOWN);
        dayRefusals(n -> n.drawn(1, 3, -1));
        dayRefusals(n -> n.drawn(1, 3, 0));
        C.due("OUTSIDE with a fault", Check.object(9, 0, "i").drawn(0, 100, 0), OUTSIDE);
    }

    private static void promise25Image() {
        C.part("25 image");
        NineNames x = Check.object(4, 2, "A?");
        x.sight(1, 0, true);
        C.due("image(2)", x.image(2), OUTSIDE);
        C.due("image(-1)", x.image(-1), OUTSIDE);
        C.due("image(1)", x.image(1), 1);
        C.due("restore(0), not kept", x.restore(0), STATE);
        x.set(0, 7);
        C.due("image(1) again", x.image(1), 1);
        x.set(0, 2);
        C.due("restore(1)", x.restore(1), 1);
        C.due("the later one", x.told(1), 7);
        C.due("an image keeps with a fault, too", Check.object(4, 0, "i").image(0), 1);
    }

    private static void promise26Restore() {
        C.part("26 restore");
        NineNames x = Check.object(4, 2, "A?");
        x.sight(2, 3, true);
        x.image(0);
        C.due("fits(-1)", x.fits(-1), 1);
        x.forget();
        x.sight(2, 5, false);
        x.sight(2, 6, false);
        x.set(0, 9);
        x.set(1, 0);
        x.image(1);
        C.due("fits(-1)", x.fits(-1), 6);
        x.wipe();
        Check.say(x, "B?C");
        C.due("restore(0)", x.restore(0), 1);
        C.due("told(1)", x.told(1), 4);
        C.due("told(2)", x.told(2), 2);
        C.due("told(3)", x.told(3), 1);
        C.due("the pad is not touched", x.told(0), 3);
        C.due("fits(-1)", x.fits(-1), 1);
        C.due("fits(0)", x.fits(0), 3);
        C.due("restore(1)", x.restore(1), 1);
        C.due("fits(-1)", x.fits(-1), 6);
        C.due("told(3)", x.told(3), 2);
        x.forget();
        C.due("an image is kept apart", x.restore(1), 1);
        C.due("an image is kept apart", x.told(3), 2);
        C.due("restore(2)", x.restore(2), OUTSIDE);
        C.due("restore(-1)", x.restore(-1), OUTSIDE);
        C.due("not kept", new NineNames().restore(1), STATE);
    }

    private static void promise27Told() {
        C.part("27 told");
        NineNames x = Check.object(6, 1, "AB!");
        x.sight(9, 0, true);
        C.due("told(0)", x.told(0), 3);
        C.due("told(1)", x.told(1), 6);
        C.due("told(2)", x.told(2), 1);
        C.due("told(3)", x.told(3), 1);
        C.due("told(4)", x.told(4), OUTSIDE);
        C.due("told(-1)", x.told(-1), OUTSIDE);
    }
}
