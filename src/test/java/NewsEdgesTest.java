/** The edges of Terms 5 and 6 and of promises 31 to 35; each test bears the sentence that it holds the class to. */
public final class NewsEdgesTest {
    private static final Checks c = new Checks("NewsEdgesTest");
    private static final Edges e = new Edges(c);
    private static final Edges.Life NEW = x -> { };
    private static final Edges.Life TOWN = Edges::town;
    private static final Edges.Life HUNDRED = NewsEdgesTest::hundredWords;

    public static void main(String[] args) {
        wordsAtMost100();
        sayOfNoneSuch();
        sayCoinsFrom0To9999();
        sayOfAnySeason();
        wordsFrom0On();
        trustOfNoneSuch();
        trust50WithoutWords();
        trustOfWordsSaidByThen();
        trustOfSeasonsThatEnded();
        worthOfEachTenth();
        worthWithCome0();
        trustIsAMeanCut();
        weighedOfNoneSuch();
        weighedWithoutAWord();
        weighedWithoutTrust();
        weighedByTheLastWord();
        weighedIsCut();
        weighedOfTheMost();
        famineOfNoneSuch();
        famineOfTwoWriters();
        famineBelowAQuarter();
        famineByTheLastWord();
        famineAsKnown();
        triedOfOtherNumbers();
        triedForAnotherWhat();
        triedForNSeasons();
        triedForTSeasonsEach();
        triedWithSqueezeAtItsEnds();
        triedWithT0();
        triedByWeather();
        triedChangesNothing();
        c.finish();
    }

    private static VillagePay of(int... papers) {
        VillagePay x = new VillagePay();
        for (int paper : papers) {
            x.village(paper, 0, 0);
        }
        return x;
    }

    private static void hundredWords(VillagePay x) {
        x.village(100, 0, 0);
        x.village(200, 0, 0);
        for (int i = 0; i < 100; i++) {
            x.say(i % 5, i % 2, i % 20, 40 + i);
        }
    }

    // ---- promise 31

    /** "at most 100 WORDS"; "NONE: [..] there are 100". */
    private static void wordsAtMost100() {
        VillagePay x = of(100);
        for (int i = 0; i < 100; i++) {
            c.is("word " + i, x.say(i % 5, 0, 0, i), i);
        }
        c.is("100 are there", x.count(7), 100);
        e.refused("a 101st word", HUNDRED, -1, y -> y.say(0, 0, 0, 0));
        e.refused("a 101st word of another", HUNDRED, -1, y -> y.say(4, 1, 19, 9999));
        x.days(60);
        c.is("nor on another day", x.say(0, 0, 0, 50), -1);
    }

    /** "NONE: there is none such (of any; WRITERS are 0 .. 4)". */
    private static void sayOfNoneSuch() {
        for (int writer : Edges.beside(0, 4)) {
            e.refused("say(" + writer + ", 0, 0, 0)", TOWN, -1, x -> x.say(writer, 0, 0, 0));
        }
        for (int village : Edges.beside(0, 2)) {
            e.refused("say(0, " + village + ", 0, 0)", TOWN, -1, x -> x.say(0, village, 0, 0));
        }
        for (int season : Edges.beside(0, 19)) {
            e.refused("say(0, 0, " + season + ", 0)", TOWN, -1, x -> x.say(0, 0, season, 0));
        }
        e.refused("new: say(0, 0, 0, 0)", NEW, -1, x -> x.say(0, 0, 0, 0));
        e.changes("the first of all", TOWN, 4, x -> x.say(0, 0, 0, 0));
        e.changes("the last of all", TOWN, 4, x -> x.say(4, 2, 19, 9999));
        VillagePay x = of(1, 2, 3, 4, 5, 6, 7, 8, 9, 10, 11, 12);
        c.is("of the 12th village", x.say(0, 11, 0, 0), 0);
        c.is("of a 13th village", x.say(0, 12, 0, 0), -1);
    }

    /** "A WRITER says coins, 0 .. 9999"; "NONE: [..] other coins". */
    private static void sayCoinsFrom0To9999() {
        for (int coins : Edges.beside(0, 9999)) {
            e.refused("say(0, 0, 5, " + coins + ")", TOWN, -1, x -> x.say(0, 0, 5, coins));
        }
        for (int coins : new int[] {0, 1, 9998, 9999}) {
            VillagePay x = of(100);
            c.is("say(0, 0, 5, " + coins + ")", x.say(0, 0, 5, coins), 0);
            c.is("what it said", x.weighed(0, 5, 0), coins);
        }
    }

    /** "say on a DAY how many coins a VILLAGE gave, or will give, in a SEASON": one that ended, goes on, or will come. */
    private static void sayOfAnySeason() {
        for (int season : new int[] {0, 1, 2, 3, 19}) {
            VillagePay x = of(100);
            x.days(130);
            c.is("of season " + season, x.say(3, 0, season, 50), 0);
            c.is("it is said", x.weighed(0, season, 130), 50);
            c.is("and not of the one ahead", season == 0 ? -1 : x.weighed(0, season - 1, 130), -1);
            c.is("its worth counts, if it ended", x.trust(3, 130), season < 2 ? 100 : 50);
        }
    }

    /** "the WORD": numbers from 0 on; a refused one takes none. */
    private static void wordsFrom0On() {
        VillagePay x = of(100);
        x.say(5, 0, 0, 0);
        c.is("the first", x.say(0, 0, 0, 0), 0);
        x.say(0, 0, 0, 10000);
        c.is("the second", x.say(0, 0, 0, 0), 1);
        c.is("two", x.count(7), 2);
    }

    // ---- promise 32

    /** "NONE: there is none such (of either)." */
    private static void trustOfNoneSuch() {
        for (int writer : Edges.beside(0, 4)) {
            e.refused("trust(" + writer + ", 130)", TOWN, -1, x -> x.trust(writer, 130));
        }
        for (int k : Edges.beside(0, 130)) {
            e.refused("trust(0, " + k + ")", TOWN, -1, x -> x.trust(0, k));
        }
        e.answers("the first writer", TOWN, 100, x -> x.trust(0, 130));
        e.answers("the last writer", TOWN, 50, x -> x.trust(4, 130));
        e.answers("on the first day", TOWN, 50, x -> x.trust(0, 0));
        e.answers("new: trust(0, 0)", NEW, 50, x -> x.trust(0, 0));
        e.answers("new: trust(0, 1)", NEW, -1, x -> x.trust(0, 1));
    }

    /** "50 without such WORDS". */
    private static void trust50WithoutWords() {
        VillagePay x = of(100);
        for (int writer = 0; writer < 5; writer++) {
            c.is("no word of " + writer, x.trust(writer, 0), 50);
        }
        x.say(0, 0, 1, 0);
        x.days(60);
        c.is("only words of a season that goes on", x.trust(0, 60), 50);
        x.days(59);
        c.is("still", x.trust(0, 119), 50);
        x.days(1);
        c.is("it ended", x.trust(0, 120), 0);
        c.is("another's words", x.trust(1, 120), 50);
        c.is("as known ahead", x.trust(0, 119), 50);
    }

    /** "those said by then": on the day k itself, too. */
    private static void trustOfWordsSaidByThen() {
        VillagePay x = of(100);
        x.days(70);
        x.say(0, 0, 0, 50);
        x.days(10);
        x.say(0, 0, 0, 0);
        x.days(10);
        c.is("the day ahead of the first word", x.trust(0, 69), 50);
        c.is("its day", x.trust(0, 70), 100);
        c.is("the day ahead of the second", x.trust(0, 79), 100);
        c.is("its day", x.trust(0, 80), 50);
        c.is("now", x.trust(0, 90), 50);
    }

    /** "of SEASONS that ended by then (their last DAY is ahead of k)". */
    private static void trustOfSeasonsThatEnded() {
        VillagePay x = of(100);
        x.say(0, 0, 0, 50);
        x.say(0, 0, 1, 0);
        x.say(0, 0, 18, 0);
        x.say(0, 0, 19, 0);
        Edges.goTo(x, 1199);
        int[][] want = {{0, 50}, {59, 50}, {60, 100}, {119, 100}, {120, 50}, {1139, 50}, {1140, 33}, {1199, 33}};
        for (int[] w : want) {
            c.is("trust on " + w[0], x.trust(0, w[0]), w[1]);
        }
    }

    private static void worth(int come, int coins, int want) {
        VillagePay x = of(2 * come);
        x.say(2, 0, 0, coins);
        x.days(60);
        c.is("of " + come + " that came", x.come(0, 0), come);
        c.is("a word of " + coins + " of " + come, x.trust(2, 60), want);
    }

    /** "A WORD is worth 100 less 20 for each whole tenth of COME that it is apart from COME, 0 at least". */
    private static void worthOfEachTenth() {
        int[][] rows = {{0, 100}, {1, 100}, {9, 100}, {10, 80}, {19, 80}, {20, 60}, {29, 60}, {30, 40}, {39, 40}, {40, 20},
            {49, 20}, {50, 0}, {59, 0}, {60, 0}, {99, 0}, {100, 0}};
        for (int[] row : rows) {
            worth(100, 100 - row[0], row[1]);
            worth(100, 100 + row[0], row[1]);
        }
        worth(100, 9999, 0);
        worth(1, 1, 100);
        worth(1, 0, 0);
        worth(1, 2, 0);
        worth(1, 9999, 0);
        worth(9, 9, 100);
        worth(9, 8, 80);
        worth(10, 9, 80);
        worth(11, 10, 100);
        worth(11, 9, 80);
        worth(15, 13, 80);
        worth(15, 12, 60);
        worth(4999, 4999, 100);
        worth(4999, 5498, 100);
        worth(4999, 5499, 80);
        worth(4999, 0, 0);
    }

    /** "(with COME 0: 100 if it is 0, too, else 0)". */
    private static void worthWithCome0() {
        for (int coins : new int[] {0, 1, 9999}) {
            VillagePay poor = of(1);
            poor.say(0, 0, 0, coins);
            poor.days(60);
            c.is("paper 1, a word of " + coins, poor.trust(0, 60), coins == 0 ? 100 : 0);
            VillagePay dry = of(9999);
            dry.weather(0, 0);
            dry.say(0, 0, 0, coins);
            dry.days(60);
            c.is("weather 0, a word of " + coins, dry.trust(0, 60), coins == 0 ? 100 : 0);
        }
    }

    /** "the mean, cut, of what its WORDS are worth": of each of them, also of several of one village and season. */
    private static void trustIsAMeanCut() {
        VillagePay x = of(200);
        x.say(0, 0, 0, 100);
        x.say(0, 0, 0, 0);
        x.say(0, 0, 0, 0);
        x.say(1, 0, 0, 0);
        x.days(60);
        c.is("100 / 3", x.trust(0, 60), 33);
        c.is("0 / 1", x.trust(1, 60), 0);
        for (int i = 0; i < 96; i++) {
            x.say(2, 0, 0, i == 0 ? 100 : 60);
        }
        // 100 and 95 times 20
        c.is("2000 / 96", x.trust(2, 60), 20);
        c.is("the book is full", x.say(2, 0, 0, 0), -1);
    }

    // ---- promise 33

    /** "NONE: there is none such (of any)". */
    private static void weighedOfNoneSuch() {
        for (int village : Edges.beside(0, 2)) {
            e.refused("weighed(" + village + ", 0, 130)", TOWN, -1, x -> x.weighed(village, 0, 130));
        }
        for (int season : Edges.beside(0, 19)) {
            e.refused("weighed(0, " + season + ", 130)", TOWN, -1, x -> x.weighed(0, season, 130));
        }
        for (int k : Edges.beside(0, 130)) {
            e.refused("weighed(0, 0, " + k + ")", TOWN, -1, x -> x.weighed(0, 0, k));
        }
        e.answers("new: weighed(0, 0, 0)", NEW, -1, x -> x.weighed(0, 0, 0));
        e.answers("on day 0", TOWN, 175, x -> x.weighed(0, 0, 0));
        VillagePay x = of(1, 2, 3, 4, 5, 6, 7, 8, 9, 10, 11, 12);
        x.say(4, 11, 19, 7);
        c.is("the last village and season", x.weighed(11, 19, 0), 7);
        c.is("a 13th village", x.weighed(12, 19, 0), -1);
    }

    /** "NONE: [..] no WORD". */
    private static void weighedWithoutAWord() {
        VillagePay x = of(100, 100);
        c.is("no word at all", x.weighed(0, 0, 0), -1);
        x.days(5);
        x.say(0, 0, 3, 0);
        c.is("a word of 0", x.weighed(0, 3, 5), 0);
        c.is("the day ahead of it", x.weighed(0, 3, 4), -1);
        c.is("the season ahead", x.weighed(0, 2, 5), -1);
        c.is("the season behind", x.weighed(0, 4, 5), -1);
        c.is("another village", x.weighed(1, 3, 5), -1);
    }

    /** "NONE: [..] all these TRUSTS are 0". */
    private static void weighedWithoutTrust() {
        VillagePay x = of(200);
        x.say(0, 0, 0, 0);
        x.say(1, 0, 0, 0);
        x.say(0, 0, 1, 70);
        x.say(1, 0, 1, 90);
        x.days(60);
        c.is("the day ahead of the end: 50 each", x.weighed(0, 1, 59), 80);
        c.is("both without trust", x.weighed(0, 1, 60), -1);
        x.say(2, 0, 1, 33);
        c.is("a third one with 50", x.weighed(0, 1, 60), 33);
        x.say(0, 0, 0, 60);
        // 0 has (0 + 20) / 2
        c.is("(70 * 10 + 33 * 50) / 60", x.weighed(0, 1, 60), 39);
    }

    /** "of each WRITER its last one", said up to k. */
    private static void weighedByTheLastWord() {
        VillagePay x = of(100);
        x.say(0, 0, 5, 10);
        x.say(0, 0, 5, 20);
        c.is("the last of one day", x.weighed(0, 5, 0), 20);
        x.days(1);
        x.say(0, 0, 5, 5);
        c.is("the last of all", x.weighed(0, 5, 1), 5);
        c.is("up to the day ahead", x.weighed(0, 5, 0), 20);
        x.say(0, 0, 6, 99);
        c.is("of that season alone", x.weighed(0, 5, 1), 5);
        for (int writer = 1; writer < 5; writer++) {
            x.say(writer, 0, 5, 5 + 10 * writer);
        }
        c.is("all five", x.weighed(0, 5, 1), 25);
    }

    /** "times its TRUST, together, by all these TRUSTS, cut". */
    private static void weighedIsCut() {
        VillagePay x = of(200);
        x.say(0, 0, 5, 10);
        x.say(1, 0, 5, 11);
        c.is("1050 / 100", x.weighed(0, 5, 0), 10);
        x.say(2, 0, 5, 12);
        c.is("1650 / 150", x.weighed(0, 5, 0), 11);
        x.say(0, 0, 0, 100);
        x.say(1, 0, 0, 80);
        x.say(2, 0, 0, 60);
        x.days(60);
        // trusts 100, 60, 20: 1000 + 660 + 240 by 180
        c.is("1900 / 180", x.weighed(0, 5, 60), 10);
        VillagePay y = of(200);
        y.say(0, 0, 0, 100);
        y.say(0, 0, 0, 0);
        y.say(0, 0, 0, 0);
        y.say(0, 0, 5, 1);
        y.say(1, 0, 5, 79);
        y.days(60);
        // trusts 33 and 50: 33 + 3950 by 83 is one less than 48 times
        c.is("3983 / 83", y.weighed(0, 5, 60), 47);
        y.say(0, 0, 5, 20);
        y.say(1, 0, 5, 20);
        c.is("1660 / 83, just so many times", y.weighed(0, 5, 60), 20);
    }

    /** The most that all writers can say. */
    private static void weighedOfTheMost() {
        VillagePay x = of(1);
        for (int writer = 0; writer < 5; writer++) {
            x.say(writer, 0, 0, 0);
            x.say(writer, 0, 19, 9999);
        }
        x.days(60);
        c.is("trust 100 of all, 9999 of each", x.weighed(0, 19, 60), 9999);
    }

    // ---- promise 34

    /** "False, too, if there is none such (of any)." */
    private static void famineOfNoneSuch() {
        for (int village : Edges.beside(0, 2)) {
            e.refused("famine(" + village + ", 3, 130)", TOWN, 0, x -> Edges.bit(x.famine(village, 3, 130)));
        }
        for (int season : Edges.beside(0, 19)) {
            e.refused("famine(1, " + season + ", 130)", TOWN, 0, x -> Edges.bit(x.famine(1, season, 130)));
        }
        for (int k : Edges.beside(0, 130)) {
            e.refused("famine(1, 3, " + k + ")", TOWN, 0, x -> Edges.bit(x.famine(1, 3, k)));
        }
        e.answers("there is one", TOWN, 1, x -> Edges.bit(x.famine(1, 3, 130)));
        e.answers("new: famine(0, 0, 0)", NEW, 0, x -> Edges.bit(x.famine(0, 0, 0)));
        VillagePay x = of(9, 9, 9, 9, 9, 9, 9, 9, 9, 9, 9, 9);
        x.say(0, 11, 19, 0);
        x.say(4, 11, 19, 0);
        c.yes("the last village and season", x.famine(11, 19, 0));
        c.no("the season ahead", x.famine(11, 18, 0));
        c.no("the village ahead", x.famine(10, 19, 0));
    }

    /** "two WRITERS or more". */
    private static void famineOfTwoWriters() {
        VillagePay x = of(100);
        c.no("no writer", x.famine(0, 0, 0));
        x.say(2, 0, 0, 0);
        c.no("one", x.famine(0, 0, 0));
        x.say(2, 0, 0, 0);
        c.no("one, twice", x.famine(0, 0, 0));
        x.say(3, 0, 1, 0);
        c.no("another one of another season", x.famine(0, 0, 0));
        x.say(3, 0, 0, 25);
        c.no("another one above it", x.famine(0, 0, 0));
        x.say(4, 0, 0, 24);
        c.yes("two", x.famine(0, 0, 0));
        x.say(0, 0, 0, 9999);
        c.yes("two of four", x.famine(0, 0, 0));
        x.say(0, 0, 0, 0);
        x.say(1, 0, 0, 0);
        x.say(3, 0, 0, 0);
        c.yes("all five", x.famine(0, 0, 0));
    }

    private static boolean starves(int paper, int coins) {
        VillagePay x = of(paper);
        x.say(0, 0, 0, coins);
        x.say(1, 0, 0, coins);
        return x.famine(0, 0, 0);
    }

    /** "below a quarter of its PAPER (4 times the WORD below PAPER)". */
    private static void famineBelowAQuarter() {
        int[][] rows = {{1, 0, 1}, {1, 1, 0}, {3, 0, 1}, {3, 1, 0}, {4, 0, 1}, {4, 1, 0}, {5, 1, 1}, {5, 2, 0}, {99, 24, 1},
            {99, 25, 0}, {100, 24, 1}, {100, 25, 0}, {101, 25, 1}, {101, 26, 0}, {103, 25, 1}, {104, 25, 1}, {104, 26, 0},
            {9999, 2499, 1}, {9999, 2500, 0}, {9999, 9999, 0}};
        for (int[] row : rows) {
            c.is(row[1] + " of " + row[0], starves(row[0], row[1]), row[2] == 1);
        }
    }

    /** "whose last WORDS are below". */
    private static void famineByTheLastWord() {
        VillagePay x = of(100);
        x.say(0, 0, 0, 0);
        x.say(1, 0, 0, 0);
        x.days(1);
        x.say(1, 0, 0, 25);
        c.no("its last one is not below", x.famine(0, 0, 1));
        c.yes("as known ahead", x.famine(0, 0, 0));
        x.say(1, 0, 0, 24);
        c.yes("its last one is", x.famine(0, 0, 1));
    }

    /** "FAMINE of a VILLAGE in a SEASON, AS KNOWN": by words said up to k, whether the season ended or not. */
    private static void famineAsKnown() {
        VillagePay x = of(100);
        x.days(10);
        x.say(0, 0, 0, 0);
        x.days(10);
        x.say(1, 0, 0, 0);
        x.days(100);
        c.no("on day 10", x.famine(0, 0, 10));
        c.no("on day 19", x.famine(0, 0, 19));
        c.yes("on day 20", x.famine(0, 0, 20));
        c.yes("on day 120", x.famine(0, 0, 120));
        c.no("on day 121, which is not yet", x.famine(0, 0, 121));
    }

    // ---- promise 35

    /** "NONE for other numbers (PAPER 1 .. 9999)": n 1 .. 20, t 0 .. 20, s 50 .. 150. */
    private static void triedOfOtherNumbers() {
        for (int what = 0; what <= 2; what++) {
            int w = what;
            for (int paper : Edges.beside(1, 9999)) {
                e.answers("tried of paper " + paper, TOWN, -1, x -> x.tried(paper, 5, 2, 100, w));
                e.answers("tried with t 0, of paper " + paper, TOWN, -1, x -> x.tried(paper, 5, 0, 100, w));
            }
            for (int n : Edges.beside(1, 20)) {
                e.answers("tried for " + n, TOWN, -1, x -> x.tried(100, n, 2, 100, w));
                e.answers("tried with t 0, for " + n, TOWN, -1, x -> x.tried(100, n, 0, 100, w));
            }
            for (int t : Edges.beside(0, 20)) {
                e.answers("tried with t " + t, TOWN, -1, x -> x.tried(100, 5, t, 100, w));
            }
            for (int s : Edges.beside(50, 150)) {
                e.answers("tried with s " + s, TOWN, -1, x -> x.tried(100, 5, 2, s, w));
                e.answers("tried with t 0, s " + s, TOWN, -1, x -> x.tried(100, 5, 0, s, w));
            }
        }
        int[][] taken = {{1, 1, 0, 50}, {9999, 20, 20, 150}, {1, 20, 1, 50}, {9999, 1, 20, 150}};
        for (int[] t : taken) {
            for (int what = 0; what <= 2; what++) {
                c.is("tried at the ends", new VillagePay().tried(t[0], t[1], t[2], t[3], what) >= 0 ? 1 : 0, 1);
            }
        }
    }

    /** "NONE for [..] another what." */
    private static void triedForAnotherWhat() {
        for (int what : Edges.beside(0, 2)) {
            e.refused("tried for what " + what, TOWN, -1, x -> x.tried(100, 5, 2, 100, what));
            e.refused("tried with t 0, for what " + what, NEW, -1, x -> x.tried(100, 5, 0, 100, what));
        }
    }

    /** "for n SEASONS, 1 .. 20, from SEASON 0 and HEALTH 100 on". */
    private static void triedForNSeasons() {
        VillagePay x = new VillagePay();
        for (int n = 1; n <= 20; n++) {
            c.is("paid for " + n, x.tried(1000, n, 20, 100, 0), 500 * n);
            c.is("health behind " + n, x.tried(1000, n, 1, 110, 1), 100 - 2 * n);
        }
        VillagePay later = of(100);
        later.squeeze(0, 150);
        Edges.goTo(later, 1199);
        c.is("no other on the last day", later.tried(1000, 20, 20, 100, 0), 10000);
        c.is("nor its health", later.tried(1000, 1, 1, 100, 1), 100);
    }

    /** "for t SEASONS each, 1 .. 20: in the last one of these each has SQUEEZE s, [..] else 100, and all that comes". */
    private static void triedForTSeasonsEach() {
        VillagePay x = new VillagePay();
        c.is("t 1, n 1", x.tried(1000, 1, 1, 150, 0), 750);
        c.is("t 2, n 1: none had a last one", x.tried(1000, 1, 2, 150, 0), 500);
        c.is("t 2, n 2", x.tried(1000, 2, 2, 150, 0), 1250);
        c.is("t 2, n 3", x.tried(1000, 3, 2, 150, 0), 1700);
        c.is("t 19, n 20", x.tried(1000, 20, 19, 150, 0), 18 * 500 + 750 + 450);
        c.is("t 20, n 20", x.tried(1000, 20, 20, 150, 0), 19 * 500 + 750);
        c.is("t 20, n 19", x.tried(1000, 19, 20, 150, 0), 19 * 500);
        c.is("t 20, n 20, health", x.tried(1000, 20, 20, 150, 1), 90);
        c.is("t 19, n 20, health", x.tried(1000, 20, 19, 150, 1), 93);
        c.is("t 20, n 19, health", x.tried(1000, 19, 20, 150, 1), 100);
        for (int t = 1; t <= 20; t++) {
            c.is("THE CROWN has nothing with t " + t, x.tried(1000, 20, t, 150, 2), 0);
        }
    }

    /** "SQUEEZE s, 50 .. 150", and HEALTH "0 .. 100 always". */
    private static void triedWithSqueezeAtItsEnds() {
        VillagePay x = new VillagePay();
        c.is("s 50", x.tried(1000, 2, 1, 50, 0), 500);
        c.is("s 50, health", x.tried(1000, 20, 1, 50, 1), 100);
        c.is("s 100, health", x.tried(1000, 20, 1, 100, 1), 100);
        c.is("s 104, health", x.tried(1000, 20, 1, 104, 1), 100);
        c.is("s 105, health", x.tried(1000, 20, 1, 105, 1), 80);
        c.is("s 150, health behind 9", x.tried(1000, 9, 1, 150, 1), 10);
        c.is("s 150, health behind 10", x.tried(1000, 10, 1, 150, 1), 0);
        c.is("s 150, health behind 11", x.tried(1000, 11, 1, 150, 1), 0);
        // 75 * (10 + 9 + .. + 1)
        c.is("s 150, paid in 10", x.tried(1000, 10, 1, 150, 0), 4125);
        c.is("s 150, paid in 20", x.tried(1000, 20, 1, 150, 0), 4125);
        c.is("paper 1", x.tried(1, 20, 1, 150, 0), 0);
        c.is("paper 9999", x.tried(9999, 1, 1, 150, 0), 7499);
    }

    /** "(t 0) the holder has PAPER * s / 200, cut, a SEASON, out of what comes [..], or all of it, if it is less". */
    private static void triedWithT0() {
        VillagePay x = new VillagePay();
        c.is("s 50: a quarter", x.tried(1000, 1, 0, 50, 0), 250);
        c.is("THE CROWN has the rest", x.tried(1000, 1, 0, 50, 2), 250);
        c.is("s 99", x.tried(1000, 1, 0, 99, 0), 495);
        c.is("s 100: all of it", x.tried(1000, 1, 0, 100, 0), 500);
        c.is("nothing for THE CROWN", x.tried(1000, 1, 0, 100, 2), 0);
        c.is("s 101: no more than all", x.tried(1000, 1, 0, 101, 0), 500);
        c.is("s 150: no more than all", x.tried(1000, 1, 0, 150, 0), 500);
        c.is("nothing less than nothing for THE CROWN", x.tried(1000, 1, 0, 150, 2), 0);
        c.is("3 * 50 / 200, cut", x.tried(3, 1, 0, 50, 0), 0);
        c.is("the rest of it", x.tried(3, 1, 0, 50, 2), 1);
        c.is("4 * 50 / 200", x.tried(4, 1, 0, 50, 0), 1);
        c.is("paper 1", x.tried(1, 20, 0, 150, 0), 0);
        c.is("20 seasons", x.tried(9999, 20, 0, 50, 0), 20 * 2499);
        c.is("20 seasons, the rest", x.tried(9999, 20, 0, 50, 2), 20 * 2500);
        c.is("health", x.tried(9999, 20, 0, 150, 1), 100);
    }

    /** "WEATHER as it is told": of seasons that ended, go on, or will come. */
    private static void triedByWeather() {
        VillagePay x = new VillagePay();
        x.weather(0, 0);
        x.weather(1, 200);
        x.weather(19, 50);
        c.is("weather 0", x.tried(1000, 1, 1, 150, 0), 0);
        c.is("weather 0, t 0", x.tried(1000, 1, 0, 150, 0), 0);
        c.is("weather 200", x.tried(1000, 2, 20, 100, 0), 1000);
        c.is("weather 200, t 0", x.tried(1000, 2, 0, 150, 0), 750);
        c.is("weather 200, t 0, THE CROWN", x.tried(1000, 2, 0, 150, 2), 250);
        c.is("all twenty", x.tried(1000, 20, 20, 100, 0), 1000 + 17 * 500 + 250);
        x.days(60);
        c.is("of one that ended", x.tried(1000, 1, 1, 150, 0), 0);
        c.is("the most that can come", new VillagePay().tried(9999, 20, 20, 100, 0), 20 * 4999);
    }

    /** It is tried, not done. */
    private static void triedChangesNothing() {
        e.refused("tried, which is no rule,", TOWN, 82, x -> x.tried(1000, 10, 2, 130, 1));
        VillagePay x = of(1000);
        x.tried(1000, 20, 1, 150, 0);
        c.is("health", x.about(0, 3), 100);
        c.is("day", x.count(4), 0);
        x.days(60);
        c.is("come", x.come(0, 0), 500);
    }
}
