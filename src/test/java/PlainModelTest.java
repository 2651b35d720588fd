import java.util.ArrayList;
import java.util.Arrays;
import java.util.List;
import java.util.Random;

/** Random runs of calls, each answered by the class and by the plain model: all answers must be the same. */
public final class PlainModelTest {
    private static final int RUNS = 500;
    private static final int CALLS = 512;
    private static final String[] NAMES = {"", "new", "village", "weather", "squeeze", "days", "come", "about", "officer",
        "dies", "give", "raise", "order", "holder", "rank", "had", "feed", "end", "reign", "fault", "scale", "due",
        "balance", "fit", "near", "deal", "dealt", "move", "stay", "idle", "moved", "say", "trust", "weighed", "famine",
        "tried", "count", "image", "again"};
    /** How often each call is made, beside the texts. */
    private static final int[] OFTEN = {0, 0, 10, 4, 6, 8, 8, 10, 8, 2, 22, 8, 3, 12, 8, 12, 1, 1, 1, 2, 14, 10, 5, 10, 4,
        8, 8, 10, 1, 6, 6, 25, 8, 8, 6, 6, 8, 3, 2};

    private final Random random;
    private final VillagePay x = new VillagePay();
    private final PlainModel model = new PlainModel();
    private final List<String> told = new ArrayList<>();
    private final Checks checks;
    private final String run;
    private final boolean jumpy;

    private PlainModelTest(int run, Checks checks) {
        this.random = new Random(run * 7919L + 5);
        this.run = "run " + run;
        this.checks = checks;
        this.jumpy = run % 4 == 1;
    }

    public static void main(String[] args) {
        Checks checks = new Checks("PlainModelTest");
        int runs = args.length > 0 ? Integer.parseInt(args[0]) : RUNS;
        int from = args.length > 1 ? Integer.parseInt(args[1]) : 0;
        for (int run = from; run < from + runs; run++) {
            if (!new PlainModelTest(run, checks).isSame()) {
                break;
            }
        }
        checks.finish();
    }

    private boolean isSame() {
        if (random.nextInt(4) != 0) {
            if (!setUp()) {
                return false;
            }
        }
        while (told.size() < CALLS) {
            if (jumpy && random.nextInt(15) == 0) {
                // images and ways back by the dozen, so that the ways between them cross
                if (!both(random.nextBoolean() ? 37 : 38, random.nextInt(3))) {
                    return false;
                }
            } else if (random.nextInt(12) == 0) {
                if (!text()) {
                    return false;
                }
            } else {
                int what = pick();
                if (!both(what, arguments(what))) {
                    return false;
                }
            }
        }
        return true;
    }

    private boolean setUp() {
        int villages = 1 + random.nextInt(12);
        int scale = random.nextBoolean() ? 10 : 900;
        for (int i = 0; i < villages; i++) {
            if (!both(2, 1 + random.nextInt(scale), random.nextInt(4) * 10, random.nextInt(51))) {
                return false;
            }
        }
        int officers = 1 + random.nextInt(6);
        for (int i = 0; i < officers; i++) {
            if (!both(8, random.nextInt(10), random.nextInt(5))) {
                return false;
            }
        }
        return true;
    }

    private boolean both(int what, int... a) {
        told.add(NAMES[what] + Arrays.toString(a));
        long got = real(what, a);
        long want = model.call(what, a);
        checks.is(run + ", call " + told.size() + ": " + told.get(told.size() - 1), got, want);
        if (got != want) {
            System.out.println(String.join("\n", told));
        }
        return got == want;
    }

    private int pick() {
        int sum = Arrays.stream(OFTEN).sum();
        int n = random.nextInt(sum);
        int what = 0;
        while (n >= OFTEN[what]) {
            n -= OFTEN[what];
            what++;
        }
        return what;
    }

    /** Mostly one of those that there are, now and then one beside them. */
    private int of(int n) {
        int r = random.nextInt(40);
        return r == 0 ? -1 : r == 1 ? n : r == 2 ? random.nextInt() : n <= 0 ? 0 : random.nextInt(n);
    }

    private int now() {
        return x.count(4);
    }

    private int village() {
        return of(x.count(0));
    }

    private int officer() {
        return of(x.count(1));
    }

    private int day() {
        return random.nextInt(3) == 0 ? of(1200) : Math.max(-1, now() - 130 + random.nextInt(200));
    }

    private int known() {
        return random.nextInt(3) == 0 ? of(now() + 1) : now();
    }

    private int season() {
        return random.nextInt(3) == 0 ? of(20) : now() / 60 - 2 + random.nextInt(4);
    }

    private int bits() {
        int bits = 0;
        for (int i = 0; i < 3; i++) {
            bits |= 1 << (officer() & 31);
        }
        return random.nextInt(20) == 0 ? random.nextInt(64) : bits;
    }

    private int[] arguments(int what) {
        switch (what) {
            case 2: return new int[] {1 + of(random.nextInt(3) == 0 ? 9999 : 200), of(51), of(51)};
            case 3: return new int[] {season(), of(201)};
            case 4: return new int[] {village(), 50 + of(101)};
            case 5: return new int[] {random.nextInt(3) == 0 ? of(201) : 1 + random.nextInt(25)};
            case 6: return new int[] {village(), season()};
            case 7: return new int[] {village(), of(7)};
            case 8: return new int[] {of(10), of(5)};
            case 9: return new int[] {officer()};
            case 10: return new int[] {village(), random.nextInt(6) == 0 ? -1 : officer(), day()};
            case 11: return new int[] {officer(), of(10), day()};
            case 12: return new int[] {of(x.count(2)), of(5)};
            case 13: return new int[] {village(), day(), known()};
            case 14: return new int[] {officer(), day(), known()};
            case 15: case 21: case 22: return new int[] {officer(), season(), known()};
            case 16: return new int[] {random.nextInt(), random.nextInt(), random.nextInt(), 0, 0x20202020};
            case 17: return new int[] {of(30)};
            case 18: return new int[] {day()};
            case 19: return new int[] {of(2)};
            case 20: return new int[] {officer(), day(), known(), of(5)};
            case 23: return new int[] {officer(), random.nextBoolean() ? of(10000) : random.nextInt(60)};
            case 24: return new int[] {random.nextInt(10) == 0 ? random.nextInt() : random.nextInt(4096)};
            case 25: return new int[] {bits(), random.nextInt(2)};
            case 26: return new int[] {bits(), random.nextInt(2), village()};
            case 27: return new int[] {officer(), village()};
            case 30: return new int[] {of(Math.max(1, x.count(6)))};
            case 31: return new int[] {of(5), village(), season(), word()};
            case 32: return new int[] {of(5), known()};
            case 33: case 34: return new int[] {village(), season(), known()};
            case 35: return new int[] {1 + of(9999), 1 + of(20), of(21), 50 + of(101), of(3)};
            case 36: return new int[] {of(11)};
            case 37: case 38: return new int[] {of(3)};
            default: return new int[0];
        }
    }

    private int word() {
        int kind = random.nextInt(4);
        return kind == 0 ? of(10000) : kind == 1 ? of(20) : of(400);
    }

    private boolean text() {
        String text = TextMaker.make(random);
        for (int i = 0; i < text.length(); i += 20) {
            if (!both(16, four(text, i), four(text, i + 4), four(text, i + 8), four(text, i + 12), four(text, i + 16))) {
                return false;
            }
        }
        int from = random.nextInt(3) == 0 ? day() : Math.max(0, now() - 100) + random.nextInt(60);
        return both(17, text.length()) && both(18, from) && both(19, 0) && both(19, 1) && both(36, 3);
    }

    private static int four(String text, int from) {
        int n = 0;
        for (int i = from; i < from + 4; i++) {
            n = n << 8 | (i < text.length() ? text.charAt(i) & 255 : 0);
        }
        return n;
    }

    private static int bit(boolean b) {
        return b ? 1 : 0;
    }

    private long real(int what, int[] a) {
        switch (what) {
            case 2: return x.village(a[0], a[1], a[2]);
            case 3: return bit(x.weather(a[0], a[1]));
            case 4: return bit(x.squeeze(a[0], a[1]));
            case 5: return x.days(a[0]);
            case 6: return x.come(a[0], a[1]);
            case 7: return x.about(a[0], a[1]);
            case 8: return x.officer(a[0], a[1]);
            case 9: return bit(x.dies(a[0]));
            case 10: return x.give(a[0], a[1], a[2]);
            case 11: return x.raise(a[0], a[1], a[2]);
            case 12: return x.order(a[0], a[1]);
            case 13: return x.holder(a[0], a[1], a[2]);
            case 14: return x.rank(a[0], a[1], a[2]);
            case 15: return x.had(a[0], a[1], a[2]);
            case 16: return x.feed(a[0], a[1], a[2], a[3], a[4]);
            case 17: return x.end(a[0]);
            case 18: return x.reign(a[0]);
            case 19: return x.fault(a[0]);
            case 20: return x.scale(a[0], a[1], a[2], a[3]);
            case 21: return x.due(a[0], a[1], a[2]);
            case 22: return x.balance(a[0], a[1], a[2]);
            case 23: return x.fit(a[0], a[1]);
            case 24: return x.near(a[0]);
            case 25: return x.deal(a[0], a[1] != 0);
            case 26: return x.dealt(a[0], a[1] != 0, a[2]);
            case 27: return x.move(a[0], a[1]);
            case 28: x.stay(); return 0;
            case 29: return x.idle();
            case 30: return x.moved(a[0]);
            case 31: return x.say(a[0], a[1], a[2], a[3]);
            case 32: return x.trust(a[0], a[1]);
            case 33: return x.weighed(a[0], a[1], a[2]);
            case 34: return bit(x.famine(a[0], a[1], a[2]));
            case 35: return x.tried(a[0], a[1], a[2], a[3], a[4]);
            case 36: return x.count(a[0]);
            case 37: return bit(x.image(a[0]));
            case 38: return bit(x.again(a[0]));
            default: throw new IllegalArgumentException("call " + what);
        }
    }
}
