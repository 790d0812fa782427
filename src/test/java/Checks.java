/** Counts the answers that are not as due, and ends a test by them. */
final class Checks {
    private final String name;
    private int made = 0;
    private int wrong = 0;

    Checks(String name) {
        this.name = name;
    }

    void due(String call, long got, long want) {
        made++;
        if (got != want) {
            wrong++;
            if (wrong <= 50) {
                System.out.println(name + ": " + call + " answered " + got + ", due is " + want);
            }
        }
    }

    void finish() {
        System.out.println(name + ": " + made + " answers looked at, " + wrong + " not as due");
        if (wrong != 0 || made == 0) {
            System.exit(1);
        }
    }

    /** Says a text sign by sign. */
    static void say(CradleHour x, String text) {
        for (char sign : text.toCharArray()) {
            x.say(sign);
        }
    }

    /** Wipes the PAD, and says a text on it. */
    static void write(CradleHour x, String text) {
        x.wipe();
        say(x, text);
    }
}
