/** Promises 31 to 35: what writers say, trust, what is weighed, famine, other rules tried. */
public final class NewsTest {
    private static final Checks c = new Checks("NewsTest");

    public static void main(String[] args) {
        say();
        trust();
        trustByTenths();
        trustWithNothingCome();
        trustOfTheMean();
        weighed();
        weighedByTrust();
        famine();
        tried();
        triedSqueezed();
        triedWithPay();
        c.finish();
    }

    private static void say() {
        VillagePay x = new VillagePay();
        x.village(100, 0, 0);
        int[][] wrong = {{-1, 0, 0, 0}, {5, 0, 0, 0}, {0, -1, 0, 0}, {0, 1, 0, 0}, {0, 0, -1, 0}, {0, 0, 20, 0},
            {0, 0, 0, -1}, {0, 0, 0, 10000}};
        for (int[] w : wrong) {
            c.is("say(" + w[0] + ", " + w[1] + ", " + w[2] + ", " + w[3] + ")", x.say(w[0], w[1], w[2], w[3]), -1);
        }
        c.is("say(4, 0, 19, 9999)", x.say(4, 0, 19, 9999), 0);
        for (int i = 1; i < 100; i++) {
            c.is("word " + i, x.say(0, 0, 0, 0), i);
        }
        c.is("a 101st", x.say(0, 0, 0, 0), -1);
        c.is("count(7)", x.count(7), 100);
    }

    private static void trust() {
        VillagePay x = new VillagePay();
        x.village(100, 0, 0);
        c.is("trust(-1, 0)", x.trust(-1, 0), -1);
        c.is("trust(5, 0)", x.trust(5, 0), -1);
        c.is("trust(0, -1)", x.trust(0, -1), -1);
        c.is("trust(0, 1)", x.trust(0, 1), -1);
        c.is("without words", x.trust(4, 0), 50);
        x.say(0, 0, 0, 50);
        x.say(0, 0, 1, 0);
        x.days(70);
        x.say(0, 0, 0, 0);
        c.is("known on 59", x.trust(0, 59), 50);
        c.is("known on 60", x.trust(0, 60), 100);
        c.is("known on 69", x.trust(0, 69), 100);
        c.is("known on 70", x.trust(0, 70), 50);
        x.days(50);
        c.is("known on 119", x.trust(0, 119), 50);
        c.is("known on 120", x.trust(0, 120), 33);
        c.is("another one", x.trust(1, 120), 50);
    }

    private static void worth(int paper, int coins, int want) {
        VillagePay x = new VillagePay();
        x.village(paper, 0, 0);
        x.say(2, 0, 0, coins);
        x.days(60);
        c.is("worth of " + coins + " with " + paper / 2, x.trust(2, 60), want);
    }

    private static void trustByTenths() {
        worth(200, 100, 100);
        worth(200, 109, 100);
        worth(200, 110, 80);
        worth(200, 119, 80);
        worth(200, 91, 100);
        worth(200, 90, 80);
        worth(200, 60, 20);
        worth(200, 50, 0);
        worth(200, 40, 0);
        worth(200, 9999, 0);
        // a tenth of 19 is 1.9: 2 apart is one, 3 apart is one, 4 apart is two
        worth(38, 20, 100);
        worth(38, 21, 80);
        worth(38, 22, 80);
        worth(38, 23, 60);
        worth(2, 1, 100);
        worth(2, 2, 0);
    }

    private static void trustWithNothingCome() {
        worth(1, 0, 100);
        worth(1, 1, 0);
        worth(1, 9999, 0);
    }

    private static void trustOfTheMean() {
        VillagePay x = new VillagePay();
        x.village(200, 0, 0);
        x.village(400, 0, 0);
        x.say(0, 0, 0, 100);
        x.say(0, 0, 0, 90);
        x.say(0, 1, 0, 240);
        x.say(1, 1, 0, 0);
        x.days(60);
        c.is("(100 + 80 + 60) / 3", x.trust(0, 60), 80);
        x.say(0, 1, 0, 0);
        x.say(0, 1, 0, 0);
        x.say(0, 1, 0, 0);
        x.say(0, 1, 0, 0);
        c.is("240 / 7, cut", x.trust(0, 60), 34);
    }

    private static void weighed() {
        VillagePay x = new VillagePay();
        x.village(100, 0, 0);
        x.village(100, 0, 0);
        x.days(5);
        x.say(0, 0, 3, 10);
        x.days(5);
        x.say(0, 0, 3, 20);
        x.say(1, 0, 3, 31);
        int[][] wrong = {{-1, 3, 10}, {2, 3, 10}, {0, -1, 10}, {0, 20, 10}, {0, 3, -1}, {0, 3, 11}};
        for (int[] w : wrong) {
            c.is("weighed(" + w[0] + ", " + w[1] + ", " + w[2] + ")", x.weighed(w[0], w[1], w[2]), -1);
        }
        c.is("known on 4", x.weighed(0, 3, 4), -1);
        c.is("known on 5", x.weighed(0, 3, 5), 10);
        c.is("known on 9", x.weighed(0, 3, 9), 10);
        c.is("known on 10: its last one alone, and another's", x.weighed(0, 3, 10), 25);
        c.is("another season", x.weighed(0, 4, 10), -1);
        c.is("another village", x.weighed(1, 3, 10), -1);
    }

    private static void weighedByTrust() {
        VillagePay x = new VillagePay();
        x.village(200, 0, 0);
        x.say(0, 0, 0, 100);
        x.say(1, 0, 0, 80);
        x.say(2, 0, 0, 0);
        x.say(0, 0, 1, 10);
        x.say(1, 0, 1, 1000);
        x.say(2, 0, 2, 7);
        x.days(60);
        c.is("(10 * 100 + 1000 * 60) / 160", x.weighed(0, 1, 60), 381);
        c.is("ahead of trust", x.weighed(0, 1, 59), 505);
        c.is("no trust at all", x.weighed(0, 2, 60), -1);
        x.say(3, 0, 2, 9);
        c.is("a new one's trust is 50", x.weighed(0, 2, 60), 9);
    }

    private static void famine() {
        VillagePay x = new VillagePay();
        x.village(100, 0, 0);
        x.village(101, 0, 0);
        x.say(0, 0, 2, 24);
        c.no("one writer", x.famine(0, 2, 0));
        x.say(0, 0, 2, 23);
        c.no("one writer twice", x.famine(0, 2, 0));
        x.days(1);
        x.say(4, 0, 2, 25);
        c.no("a quarter is not below it", x.famine(0, 2, 1));
        x.say(4, 0, 2, 0);
        c.yes("two writers", x.famine(0, 2, 1));
        c.no("as known ahead", x.famine(0, 2, 0));
        c.no("another season", x.famine(0, 1, 1));
        c.no("another village", x.famine(1, 2, 1));
        x.say(0, 0, 2, 60);
        c.no("its last word counts", x.famine(0, 2, 1));
        x.say(1, 0, 2, 1);
        c.yes("two of three", x.famine(0, 2, 1));
        x.say(2, 1, 2, 25);
        x.say(3, 1, 2, 25);
        c.yes("25 is below a quarter of 101", x.famine(1, 2, 1));
        int[][] wrong = {{-1, 2, 1}, {2, 2, 1}, {1, -1, 1}, {1, 20, 1}, {1, 2, -1}, {1, 2, 2}};
        for (int[] w : wrong) {
            c.no("famine(" + w[0] + ", " + w[1] + ", " + w[2] + ")", x.famine(w[0], w[1], w[2]));
        }
    }

    private static void tried() {
        VillagePay x = new VillagePay();
        int[][] wrong = {{0, 1, 1, 100, 0}, {10000, 1, 1, 100, 0}, {1, 0, 1, 100, 0}, {1, 21, 1, 100, 0},
            {1, 1, -1, 100, 0}, {1, 1, 21, 100, 0}, {1, 1, 1, 49, 0}, {1, 1, 1, 151, 0}, {1, 1, 0, 49, 0},
            {1, 1, 0, 151, 0}, {1, 1, 1, 100, -1}, {1, 1, 1, 100, 3}};
        for (int[] w : wrong) {
            c.is("tried(" + w[0] + ", " + w[1] + ", " + w[2] + ", " + w[3] + ", " + w[4] + ")",
                x.tried(w[0], w[1], w[2], w[3], w[4]), -1);
        }
        c.is("the least", x.tried(1, 1, 1, 50, 0), 0);
        c.is("the most", x.tried(9999, 20, 20, 100, 0), 20 * 4999);
    }

    private static void triedSqueezed() {
        VillagePay x = new VillagePay();
        // seasons 100, 100, 150 | 100, 100, 150 | 100: health 100, 100, 100, 90, 93, 96, 86
        c.is("paid", x.tried(1000, 7, 3, 150, 0), 500 + 500 + 750 + 450 + 465 + 720 + 430);
        c.is("health", x.tried(1000, 7, 3, 150, 1), 89);
        c.is("crown", x.tried(1000, 7, 3, 150, 2), 0);
        c.is("never squeezed", x.tried(1000, 7, 8, 150, 0), 3500);
        c.is("squeezed in the last", x.tried(1000, 7, 7, 150, 0), 3750);
        c.is("spared", x.tried(1000, 2, 1, 50, 0), 500);
        x.weather(1, 50);
        x.village(5, 0, 0);
        x.days(120);
        c.is("weather of seasons that ended, too", x.tried(1000, 2, 9, 100, 0), 750);
        x.weather(2, 200);
        c.is("all that comes, in a good season, too", x.tried(1000, 3, 1, 60, 0), 300 + 150 + 600);
        c.is("nothing for THE CROWN", x.tried(1000, 3, 1, 60, 2), 0);
        c.is("health 0 at least", x.tried(1000, 20, 1, 150, 1), 0);
    }

    private static void triedWithPay() {
        VillagePay x = new VillagePay();
        x.weather(1, 50);
        x.weather(2, 150);
        // comes 500, 250, 750; the holder has 330 at most
        c.is("paid", x.tried(1000, 3, 0, 66, 0), 330 + 250 + 330);
        c.is("crown", x.tried(1000, 3, 0, 66, 2), 170 + 0 + 420);
        c.is("health", x.tried(1000, 3, 0, 150, 1), 100);
        c.is("333 * 99 / 200, cut", x.tried(333, 1, 0, 99, 0), 164);
        c.is("the rest", x.tried(333, 1, 0, 99, 2), 2);
        c.is("all that comes", x.tried(333, 1, 0, 150, 0), 166);
    }
}
