import java.util.ArrayList;
import java.util.List;

/** All that can be asked of an object's state, so that a call that changed something is found out. */
final class Twin {
    /** Four crossings that are not told, with looks up to the last EVENT: so every SIGHT counts. */
    private static final String PROBE = "????" + "a".repeat(36);

    private Twin() { }

    /** The objects are used up by this: their PAD goes, their IMAGES come back. */
    static boolean same(NineNames x, NineNames y) {
        return answers(x).equals(answers(y));
    }

    private static List<Integer> answers(NineNames x) {
        List<Integer> all = new ArrayList<>();
        setting(x, all);
        pad(x, all);
        all.add(x.wipe());
        Check.say(x, PROBE);
        sights(x, all);
        for (int n = 0; n < 2; n++) {
            all.add(x.restore(n));
            setting(x, all);
            sights(x, all);
        }
        return all;
    }

    private static void setting(NineNames x, List<Integer> all) {
        for (int what = 0; what < 4; what++) {
            all.add(x.told(what));
        }
    }

    private static void pad(NineNames x, List<Integer> all) {
        all.add(x.fault());
        for (int events = 0; events <= x.told(0); events++) {
            all.add(x.stands(events, 0));
        }
        for (int place = 0; place < 9; place++) {
            all.add(x.stands(-1, place));
        }
        for (int person = 0; person < 8; person++) {
            all.add(x.read(person));
            all.add(x.seen(person));
        }
        sights(x, all);
    }

    private static void sights(NineNames x, List<Integer> all) {
        all.add(x.fits(-1));
        for (int i = 0; i < 4; i++) {
            all.add(x.fits(i));
            all.add(x.could(i));
        }
        for (int person = 0; person < 8; person++) {
            all.add(x.alibi(person));
        }
    }
}
