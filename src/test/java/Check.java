/** Counts answers that are not as due, and ends a test. */
final class Check {
    private int right;
    private int wrong;
    private String part = "";

    void part(String name) {
        part = name;
    }

    void due(String call, long got, long want) {
        if (got == want) {
            right++;
            return;
        }
        wrong++;
        if (wrong <= 50) {
            System.out.println(part + ": " + call + " answered " + got + ", due is " + want);
        }
    }

    void due(String call, boolean got) {
        due(call, got ? 1 : 0, 1);
    }

    void end() {
        System.out.println(right + " answers as due, " + wrong + " not");
        if (wrong != 0 || right == 0) {
            System.exit(1);
        }
    }

    static NineNames object(int length, int law, String day) {
        NineNames x = new NineNames();
        x.set(0, length);
        x.set(1, law);
        say(x, day);
        return x;
    }

    static void say(NineNames x, String day) {
        for (int n = 0; n < day.length(); n++) {
            x.say(day.charAt(n));
        }
    }
}
