/** What the tests share: counting wrong answers, and putting a text on the tape. */
final class Checks {
    private static final long MILLIS = 300_000;

    private final String name;
    private int seen;
    private int wrong;

    Checks(String name) {
        this.name = name;
        Thread guard = new Thread(this::giveUp);
        guard.setDaemon(true);
        guard.start();
    }

    /** A call that does not end must not keep the tests from ending. */
    private void giveUp() {
        try {
            Thread.sleep(MILLIS);
        } catch (InterruptedException e) {
            return;
        }
        System.out.println(name + ": no end");
        Runtime.getRuntime().halt(1);
    }

    void is(String what, long got, long want) {
        seen++;
        if (got != want) {
            wrong++;
            System.out.println(what + " answered " + got + ", due is " + want);
        }
    }

    void is(String what, boolean got, boolean want) {
        is(what, got ? 1 : 0, want ? 1 : 0);
    }

    void yes(String what, boolean got) {
        is(what, got, true);
    }

    void no(String what, boolean got) {
        is(what, got, false);
    }

    /** The last feed has zeros behind the text, which end() takes off again. */
    static void tape(VillagePay x, String text) {
        int length = 0;
        for (int i = 0; i < text.length(); i += 20) {
            length = x.feed(four(text, i), four(text, i + 4), four(text, i + 8), four(text, i + 12), four(text, i + 16));
        }
        if (text.length() > 0) {
            x.end(length - (20 - text.length() % 20) % 20);
        }
    }

    static int rules(VillagePay x, int day, String text) {
        tape(x, text);
        return x.reign(day);
    }

    private static int four(String text, int from) {
        int n = 0;
        for (int i = from; i < from + 4; i++) {
            n = n << 8 | (i < text.length() ? text.charAt(i) & 255 : 0);
        }
        return n;
    }

    void finish() {
        System.out.println(name + ": " + seen + " answers, " + wrong + " wrong");
        if (wrong != 0 || seen == 0) {
            System.exit(1);
        }
    }
}
