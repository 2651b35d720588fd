/** The edges of Term 1 and of promises 1 to 7; each test bears the sentence that it holds the class to. */
public final class LandEdgesTest {
    private static final Checks c = new Checks("LandEdgesTest");
    private static final Edges e = new Edges(c);
    private static final Edges.Life NEW = x -> { };
    private static final Edges.Life TOWN = Edges::town;

    public static void main(String[] args) {
        nothingAtFirst();
        villagesAtMost12();
        paperFrom1To9999();
        placeFrom0To50();
        healthIs100AtFirst();
        numbersFrom0On();
        weatherOfSeasons0To19();
        weatherFrom0To200();
        weatherIs100AtFirst();
        weatherOfOneThatHasNotEnded();
        squeezeFrom50To150();
        squeezeIs100AtFirst();
        squeezeOfNoVillage();
        squeezeFromNowOn();
        daysFrom1To200();
        daysTo1199();
        aSeasonHas60Days();
        allSeasonsThatEnd();
        comeIsCutFourTimes();
        theLeastAndTheMostCome();
        healthIsLessByFifthsAbove100();
        healthRestsUpTo100();
        healthIs0AtLeast();
        comeOfNoneSuch();
        comeOfOneThatDidNotEnd();
        aboutOfNoneSuch();
        aboutForAnotherWhat();
        holderNowAndNoSuch();
        overOnlyAboveTake();
        overOnlyOfAHolder();
        c.finish();
    }

    private static void twelve(VillagePay x) {
        for (int i = 0; i < 12; i++) {
            x.village(100 + i, i, 50 - i);
        }
    }

    // ---- promise 1: "No VILLAGES, OFFICERS, RULES; DAY 0; no images."

    private static void nothingAtFirst() {
        VillagePay x = new VillagePay();
        for (int what = 0; what <= 10; what++) {
            c.is("at first count(" + what + ")", x.count(what), 0);
        }
        c.is("at first no village", x.about(0, 0), -2);
        c.is("at first no officer", x.rank(0, 0, 0), -1);
        c.is("at first no order", x.order(0, 0), -2);
        c.is("at first no reign() was", x.fault(0), 0);
        c.is("at first no place", x.fault(1), -1);
        c.is("at first an empty tape", x.end(1), -1);
        c.is("at first no day but 0 is known", x.trust(0, 1), -1);
        c.is("at first no move", x.moved(0), -1);
        for (int k = 0; k < 3; k++) {
            c.no("at first no image " + k, x.again(k));
        }
        x.officer(9, 9);
        c.is("at first no rules: no pay", x.scale(0, 1199, 0, 0), 0);
        c.is("a new object is DAY 0: the first to come serves on it", x.rank(0, 0, 0), 9);
    }

    // ---- Term 1 and promise 2

    /** "VILLAGES, at most 12"; "NONE: there are 12". */
    private static void villagesAtMost12() {
        VillagePay x = new VillagePay();
        for (int i = 0; i < 12; i++) {
            c.is("village " + i + " of 12", x.village(1 + i, 0, 0), i);
        }
        e.refused("a 13th village", LandEdgesTest::twelve, -1, y -> y.village(100, 0, 0));
        e.refused("a 13th village, of the most", LandEdgesTest::twelve, -1, y -> y.village(9999, 50, 50));
        e.answers("the 12th is number 11", LandEdgesTest::twelve, 111, y -> y.about(11, 0));
    }

    /** "have a PAPER, 1 .. 9999 coins a year"; "NONE: [..] other numbers". */
    private static void paperFrom1To9999() {
        for (int paper : Edges.beside(1, 9999)) {
            e.refused("village(" + paper + ", 0, 0)", NEW, -1, x -> x.village(paper, 0, 0));
            e.refused("in town, village(" + paper + ", 50, 50)", TOWN, -1, x -> x.village(paper, 50, 50));
        }
        for (int paper : new int[] {1, 9999}) {
            VillagePay x = new VillagePay();
            c.is("village(" + paper + ", 0, 0)", x.village(paper, 0, 0), 0);
            c.is("its paper", x.about(0, 0), paper);
        }
    }

    /** "a place x, y, 0 .. 50"; "NONE: [..] other numbers". */
    private static void placeFrom0To50() {
        for (int at : Edges.beside(0, 50)) {
            e.refused("village(1, " + at + ", 0)", TOWN, -1, x -> x.village(1, at, 0));
            e.refused("village(1, 0, " + at + ")", TOWN, -1, x -> x.village(1, 0, at));
            e.refused("village(9999, " + at + ", 50)", NEW, -1, x -> x.village(9999, at, 50));
            e.refused("village(9999, 50, " + at + ")", NEW, -1, x -> x.village(9999, 50, at));
        }
        int[][] corners = {{0, 0}, {0, 50}, {50, 0}, {50, 50}};
        for (int[] at : corners) {
            VillagePay x = new VillagePay();
            c.is("village(1, " + at[0] + ", " + at[1] + ")", x.village(1, at[0], at[1]), 0);
            c.is("its x", x.about(0, 1), at[0]);
            c.is("its y", x.about(0, 2), at[1]);
        }
    }

    /** "a HEALTH, 0 .. 100 (100 at first)". */
    private static void healthIs100AtFirst() {
        e.answers("health of a new village", x -> x.village(1, 0, 0), 100, x -> x.about(0, 3));
        VillagePay x = Edges.led(TOWN);
        x.village(1, 0, 0);
        c.is("health of one that comes late", x.about(3, 3), 100);
    }

    /** "VILLAGES [..] from 0 on": a refused one takes no number. */
    private static void numbersFrom0On() {
        VillagePay x = new VillagePay();
        x.village(0, 0, 0);
        c.is("the first that is taken", x.village(5, 0, 0), 0);
        x.village(1, 51, 0);
        c.is("the second that is taken", x.village(6, 0, 0), 1);
        c.is("paper of the first", x.about(0, 0), 5);
        c.is("paper of the second", x.about(1, 0), 6);
    }

    // ---- promise 3

    /** "SEASONS 0 .. 19"; "false: there is none such". */
    private static void weatherOfSeasons0To19() {
        for (int season : Edges.beside(0, 19)) {
            e.refused("weather(" + season + ", 0)", TOWN, 0, x -> Edges.bit(x.weather(season, 0)));
            e.refused("new: weather(" + season + ", 200)", NEW, 0, x -> Edges.bit(x.weather(season, 200)));
        }
        for (int season : new int[] {0, 19}) {
            VillagePay x = new VillagePay();
            c.yes("weather(" + season + ", 0)", x.weather(season, 0));
            c.is("all but that one", x.tried(200, 20, 20, 100, 0), 1900);
            c.is("seasons ahead of the last", x.tried(200, 19, 20, 100, 0), season == 0 ? 1800 : 1900);
        }
    }

    /** "a WEATHER, 0 .. 200 percent"; "false: [..] another one". */
    private static void weatherFrom0To200() {
        for (int percent : Edges.beside(0, 200)) {
            e.refused("weather(3, " + percent + ")", TOWN, 0, x -> Edges.bit(x.weather(3, percent)));
            e.refused("new: weather(0, " + percent + ")", NEW, 0, x -> Edges.bit(x.weather(0, percent)));
        }
        int[][] taken = {{0, 0}, {1, 5}, {199, 995}, {200, 1000}};
        for (int[] w : taken) {
            VillagePay x = new VillagePay();
            x.village(1000, 0, 0);
            c.yes("weather(0, " + w[0] + ")", x.weather(0, w[0]));
            x.days(60);
            c.is("come by it", x.come(0, 0), w[1]);
        }
    }

    /** "a WEATHER, [..] (100 at first)". */
    private static void weatherIs100AtFirst() {
        VillagePay x = new VillagePay();
        x.village(9999, 0, 0);
        Edges.goTo(x, 1199);
        for (int season = 0; season < 19; season++) {
            c.is("come of season " + season, x.come(0, season), 4999);
        }
        c.is("and of the last one", x.tried(9999, 20, 20, 100, 0), 20 * 4999);
    }

    /** "told for one that has not ended"; "false: [..] it ended". */
    private static void weatherOfOneThatHasNotEnded() {
        for (int season = 0; season < 19; season++) {
            int end = 60 * (season + 1);
            int s = season;
            VillagePay x = new VillagePay();
            x.village(1000, 0, 0);
            Edges.goTo(x, end - 1);
            c.yes("season " + s + " on its last day", x.weather(s, 150));
            x.days(1);
            c.no("season " + s + " on the day behind it", x.weather(s, 20));
            c.is("come of season " + s, x.come(0, s), 750);
            c.yes("the next season on its first day", x.weather(s + 1, 20));
        }
        e.refused("weather of a season that ended long ago", TOWN, 0, x -> Edges.bit(x.weather(0, 200)));
        e.refused("weather of the one that ended last", TOWN, 0, x -> Edges.bit(x.weather(1, 200)));
        e.changes("weather of the one that goes on", TOWN, 1, x -> Edges.bit(x.weather(2, 200)));
        VillagePay x = new VillagePay();
        Edges.goTo(x, 1199);
        c.no("season 18 on the last day of all", x.weather(18, 0));
        c.yes("season 19 on the last day of all", x.weather(19, 0));
        c.is("it is told", x.tried(200, 20, 20, 100, 0), 1900);
    }

    // ---- promise 4

    /** "A VILLAGE has a SQUEEZE, 50 .. 150"; "false: [..] another one". */
    private static void squeezeFrom50To150() {
        for (int percent : Edges.beside(50, 150)) {
            e.refused("squeeze(1, " + percent + ")", TOWN, 0, x -> Edges.bit(x.squeeze(1, percent)));
        }
        e.refused("squeeze(1, 0)", TOWN, 0, x -> Edges.bit(x.squeeze(1, 0)));
        for (int percent : new int[] {50, 51, 149, 150}) {
            VillagePay x = Edges.led(TOWN);
            c.yes("squeeze(1, " + percent + ")", x.squeeze(1, percent));
            c.is("its squeeze", x.about(1, 4), percent);
            c.is("another one's", x.about(0, 4), 100);
        }
    }

    /** "a SQUEEZE, [..] (100 at first)". */
    private static void squeezeIs100AtFirst() {
        VillagePay x = new VillagePay();
        x.village(1000, 0, 0);
        c.is("squeeze at first", x.about(0, 4), 100);
        x.days(60);
        c.is("come by it", x.come(0, 0), 500);
        c.is("no less health by it", x.about(0, 3), 100);
    }

    /** "false: there is none such". */
    private static void squeezeOfNoVillage() {
        for (int village : Edges.beside(0, 2)) {
            e.refused("squeeze(" + village + ", 50)", TOWN, 0, x -> Edges.bit(x.squeeze(village, 50)));
        }
        for (int village : new int[] {-1, 0, 11, 12}) {
            e.refused("new: squeeze(" + village + ", 50)", NEW, 0, x -> Edges.bit(x.squeeze(village, 50)));
        }
        e.refused("squeeze of a 13th", LandEdgesTest::twelve, 0, x -> Edges.bit(x.squeeze(12, 50)));
        e.changes("squeeze of the 12th", LandEdgesTest::twelve, 1, x -> Edges.bit(x.squeeze(11, 50)));
        e.changes("squeeze of the first", LandEdgesTest::twelve, 1, x -> Edges.bit(x.squeeze(0, 150)));
    }

    /** "SQUEEZE of a VILLAGE from now on": for the season that goes on, and all behind it, but for none that ended. */
    private static void squeezeFromNowOn() {
        VillagePay x = new VillagePay();
        x.village(1000, 0, 0);
        x.days(59);
        x.squeeze(0, 120);
        x.days(1);
        c.is("told on a season's last day", x.come(0, 0), 600);
        x.squeeze(0, 50);
        c.is("told on the day behind it", x.come(0, 0), 600);
        x.days(60);
        c.is("for the next one", x.come(0, 1), 240);
        x.days(60);
        c.is("and the one behind it", x.come(0, 2), 247);
    }

    // ---- promise 5

    /** "So many DAYS go by, 1 .. 200"; "NONE: another number". */
    private static void daysFrom1To200() {
        for (int n : Edges.beside(1, 200)) {
            e.refused("days(" + n + ")", TOWN, -1, x -> x.days(n));
            e.refused("new: days(" + n + ")", NEW, -1, x -> x.days(n));
        }
        e.refused("days(-200)", TOWN, -1, x -> x.days(-200));
        e.answers("days(1)", TOWN, 131, x -> x.days(1));
        e.answers("days(200)", TOWN, 330, x -> x.days(200));
        e.answers("new: days(1)", NEW, 1, x -> x.days(1));
        e.answers("new: days(200)", NEW, 200, x -> x.days(200));
    }

    /** "DAYS go from 0 on, to 1199"; "NONE: [..] it would be above 1199". */
    private static void daysTo1199() {
        int[][] rows = {{999, 200, 1199}, {1000, 199, 1199}, {1000, 200, -1}, {1139, 60, 1199}, {1139, 61, -1},
            {1198, 1, 1199}, {1198, 2, -1}, {1199, 1, -1}, {1199, 200, -1}, {998, 200, 1198}};
        for (int[] row : rows) {
            Edges.Life life = x -> {
                x.village(1000, 0, 0);
                x.officer(3, 3);
                x.give(0, 0, 0);
                Edges.goTo(x, row[0]);
            };
            String what = "on day " + row[0] + " days(" + row[1] + ")";
            if (row[2] == -1) {
                e.refused(what, life, -1, x -> x.days(row[1]));
            } else {
                e.changes(what, life, row[2], x -> x.days(row[1]));
            }
        }
        VillagePay x = new VillagePay();
        Edges.goTo(x, 1199);
        c.is("the last day is known", x.trust(0, 1199), 50);
        c.is("no day behind it", x.trust(0, 1200), -1);
        c.is("an officer comes on it", x.officer(4, 4), 0);
        c.is("and serves", x.rank(0, 1199, 1199), 4);
    }

    // ---- Term 1: how seasons end

    /** "a SEASON has 60"; "As a SEASON ENDS (its last DAY goes by)". */
    private static void aSeasonHas60Days() {
        VillagePay x = new VillagePay();
        x.village(1000, 0, 0);
        x.squeeze(0, 150);
        x.days(59);
        c.is("no season has ended on day 59", x.count(5), 0);
        c.is("nothing came", x.come(0, 0), -1);
        c.is("health as at first", x.about(0, 3), 100);
        x.days(1);
        c.is("one has on day 60", x.count(5), 1);
        c.is("it came", x.come(0, 0), 750);
        c.is("health less by 10", x.about(0, 3), 90);
        x.days(59);
        c.is("still one on day 119", x.count(5), 1);
        c.is("once alone", x.about(0, 3), 90);
        x.days(1);
        c.is("two on day 120", x.count(5), 2);
        c.is("come with health 90", x.come(0, 1), 675);
    }

    /** "SEASONS 0 .. 19": by many days at once each that is passed ends, and the last one never does. */
    private static void allSeasonsThatEnd() {
        VillagePay slow = new VillagePay();
        VillagePay fast = new VillagePay();
        for (VillagePay x : new VillagePay[] {slow, fast}) {
            x.village(777, 0, 0);
            x.squeeze(0, 113);
            x.weather(2, 60);
        }
        for (int i = 0; i < 199; i++) {
            slow.days(6);
        }
        slow.days(5);
        Edges.goTo(fast, 1199);
        c.is("the same day", slow.count(4), fast.count(4));
        for (int s = 0; s < 19; s++) {
            c.is("come of season " + s, slow.come(0, s), fast.come(0, s));
        }
        c.is("the same health", slow.about(0, 3), fast.about(0, 3));
        c.is("19 have ended", fast.count(5), 19);
        c.is("18 is the last that came", fast.come(0, 18) >= 0 ? 1 : 0, 1);
        c.is("19 does not end", fast.come(0, 19), -1);
        VillagePay over = new VillagePay();
        over.village(1000, 0, 0);
        over.days(59);
        over.days(122);
        c.is("from day 59 to 181 three end", over.count(5), 3);
        c.is("the first of these", over.come(0, 0), 500);
        c.is("the last of these", over.come(0, 2), 500);
        c.is("not the next one", over.come(0, 3), -1);
    }

    private static int comes(int paper, int weather, int squeeze) {
        VillagePay x = new VillagePay();
        x.village(paper, 0, 0);
        x.weather(0, weather);
        x.squeeze(0, squeeze);
        x.days(60);
        return x.come(0, 0);
    }

    /** "COME is PAPER * HEALTH / 100, cut, * WEATHER / 100, cut, * SQUEEZE / 100, cut, / 2, cut". */
    private static void comeIsCutFourTimes() {
        c.is("3, / 2", comes(3, 100, 100), 1);
        // 3 * 50 / 100 is 1, * 150 / 100 is 1, / 2 is 0; without cuts 2.25 / 2 is 1
        c.is("cut behind WEATHER", comes(3, 50, 150), 0);
        // 5 * 67 / 100 is 3, * 134 / 100 is 4, / 2 is 2
        c.is("cut behind SQUEEZE", comes(5, 67, 134), 2);
        // 7 * 199 / 100 is 13, * 149 / 100 is 19, / 2 is 9; without cuts 20.7 / 2 is 10
        c.is("cut behind both", comes(7, 199, 149), 9);
        VillagePay x = new VillagePay();
        x.village(199, 0, 0);
        x.squeeze(0, 105);
        x.days(60);
        x.squeeze(0, 100);
        x.weather(1, 200);
        x.days(60);
        // 199 * 99 / 100 is 197, * 2 is 394, / 2 is 197; without the first cut 394.02
        c.is("with health 99", x.come(0, 1), 197);
        x = new VillagePay();
        x.village(50, 0, 0);
        x.squeeze(0, 105);
        x.days(60);
        x.squeeze(0, 100);
        x.weather(1, 200);
        x.days(60);
        // 50 * 99 / 100 is 49 (49.5), * 2 is 98, / 2 is 49; without the cut behind HEALTH 49.5
        c.is("with health 99, of 50", x.come(0, 1), 49);
        x = new VillagePay();
        x.village(150, 0, 0);
        x.squeeze(0, 105);
        x.days(60);
        x.weather(1, 200);
        x.squeeze(0, 150);
        x.days(60);
        // 150 * 99 / 100 is 148 (148.5), * 2 is 296, * 1.5 is 444, / 2 is 222; without the cut behind HEALTH 222.75
        c.is("with health 99, of 150", x.come(0, 1), 222);
    }

    /** The ends of PAPER, WEATHER and SQUEEZE together. */
    private static void theLeastAndTheMostCome() {
        c.is("the most", comes(9999, 200, 150), 14998);
        c.is("the least paper", comes(1, 100, 100), 0);
        c.is("the least paper, with the most", comes(1, 200, 150), 1);
        c.is("the least squeeze", comes(9999, 100, 50), 2499);
        c.is("weather 0", comes(9999, 0, 150), 0);
        c.is("weather 1", comes(9999, 1, 150), 74);
        c.is("paper 2", comes(2, 100, 100), 1);
        c.is("paper 2, spared", comes(2, 100, 99), 0);
    }

    private static int healthBehind(int squeeze) {
        VillagePay x = new VillagePay();
        x.village(100, 0, 0);
        x.squeeze(0, 150);
        x.days(60);
        x.squeeze(0, squeeze);
        x.days(60);
        return x.about(0, 3);
    }

    /** "then HEALTH is less by (SQUEEZE - 100) / 5, cut, if SQUEEZE is above 100, else 3 more". */
    private static void healthIsLessByFifthsAbove100() {
        int[][] rows = {{50, 93}, {99, 93}, {100, 93}, {101, 90}, {104, 90}, {105, 89}, {109, 89}, {110, 88}, {149, 81},
            {150, 80}};
        for (int[] row : rows) {
            c.is("from 90, with squeeze " + row[0], healthBehind(row[0]), row[1]);
        }
    }

    /** "(0 .. 100 always)", at the upper end. */
    private static void healthRestsUpTo100() {
        int[][] rows = {{105, 99}, {110, 98}, {115, 97}, {120, 96}};
        for (int[] row : rows) {
            VillagePay x = new VillagePay();
            x.village(100, 0, 0);
            x.squeeze(0, row[0]);
            x.days(60);
            c.is("squeezed by " + row[0], x.about(0, 3), row[1]);
            x.squeeze(0, 100);
            x.days(60);
            c.is("rested from " + row[1], x.about(0, 3), Math.min(100, row[1] + 3));
            x.days(60);
            c.is("rested longer", x.about(0, 3), 100);
        }
        VillagePay x = new VillagePay();
        x.village(100, 0, 0);
        x.squeeze(0, 50);
        x.days(120);
        c.is("never above 100", x.about(0, 3), 100);
    }

    /** "(0 .. 100 always)", at the lower end. */
    private static void healthIs0AtLeast() {
        VillagePay x = new VillagePay();
        x.village(9999, 0, 0);
        x.squeeze(0, 145);
        for (int i = 1; i <= 11; i++) {
            x.days(60);
            c.is("9 less, " + i + " times", x.about(0, 3), 100 - 9 * i);
        }
        x.days(60);
        c.is("1 less 9", x.about(0, 3), 0);
        c.is("come with health 1", x.come(0, 11), 71);
        x.days(60);
        c.is("0 less 9", x.about(0, 3), 0);
        c.is("come with health 0", x.come(0, 12), 0);
        x.squeeze(0, 100);
        x.days(60);
        c.is("3 from 0", x.about(0, 3), 3);
        c.is("nothing came as it began to rest", x.come(0, 13), 0);
        VillagePay y = new VillagePay();
        y.village(100, 0, 0);
        y.squeeze(0, 150);
        Edges.goTo(y, 540);
        c.is("10 less, 9 times", y.about(0, 3), 10);
        y.days(60);
        c.is("10 times: just 0", y.about(0, 3), 0);
    }

    // ---- promise 6

    /** "NONE: there is none such". */
    private static void comeOfNoneSuch() {
        for (int village : Edges.beside(0, 2)) {
            e.refused("come(" + village + ", 0)", TOWN, -1, x -> x.come(village, 0));
        }
        for (int season : Edges.beside(0, 19)) {
            e.refused("come(0, " + season + ")", TOWN, -1, x -> x.come(0, season));
        }
        for (int season : new int[] {-1, 0, 19, 20}) {
            e.refused("new: come(0, " + season + ")", NEW, -1, x -> x.come(0, season));
        }
        e.answers("the first village", TOWN, 250, x -> x.come(0, 0));
        e.answers("the last village", TOWN, 100, x -> x.come(2, 0));
        Edges.Life late = x -> {
            twelve(x);
            Edges.goTo(x, 1199);
        };
        e.answers("the 12th village, in the last season that ended", late, 55, x -> x.come(11, 18));
        e.answers("no 13th village", late, -1, x -> x.come(12, 18));
        e.answers("season -1 of the second is not the last of the first", late, -1, x -> x.come(1, -1));
        e.answers("season 20 of the first is not the first of the second", late, -1, x -> x.come(0, 20));
    }

    /** "NONE: [..] it did not end". */
    private static void comeOfOneThatDidNotEnd() {
        e.answers("the last that ended", TOWN, 500, x -> x.come(0, 1));
        e.answers("the one that goes on", TOWN, -1, x -> x.come(0, 2));
        e.answers("the last of all", TOWN, -1, x -> x.come(0, 19));
        VillagePay x = new VillagePay();
        x.village(1000, 0, 0);
        for (int season = 0; season < 19; season++) {
            x.days(59);
            c.is("on the last day of season " + season, x.come(0, season), -1);
            x.days(1);
            c.is("on the day behind it", x.come(0, season), 500);
        }
        x.days(59);
        c.is("on the last day of all", x.come(0, 19), -1);
    }

    // ---- promise 7

    /** "-2 if there is none such". */
    private static void aboutOfNoneSuch() {
        for (int what = 0; what <= 6; what++) {
            int w = what;
            for (int village : Edges.beside(0, 2)) {
                e.answers("about(" + village + ", " + w + ")", TOWN, -2, x -> x.about(village, w));
            }
            e.answers("new: about(0, " + w + ")", NEW, -2, x -> x.about(0, w));
            e.answers("about(12, " + w + ") of twelve", LandEdgesTest::twelve, -2, x -> x.about(12, w));
        }
        e.answers("the 12th", LandEdgesTest::twelve, 39, x -> x.about(11, 2));
        e.refused("about of none changes nothing", TOWN, -2, x -> x.about(3, 0));
    }

    /** "-2 [..] for another what". */
    private static void aboutForAnotherWhat() {
        for (int what : Edges.beside(0, 6)) {
            e.refused("about(0, " + what + ")", TOWN, -2, x -> x.about(0, what));
            e.answers("about(2, " + what + ")", TOWN, -2, x -> x.about(2, what));
            e.answers("about(3, " + what + ")", TOWN, -2, x -> x.about(3, what));
        }
        long[] want = {600, 3, 4, 92, 120, 1, 1};
        for (int what = 0; what <= 6; what++) {
            int w = what;
            e.answers("about(1, " + w + ")", TOWN, want[w], x -> x.about(1, w));
        }
    }

    /** "5: its HOLDER now": NONE is THE CROWN, and -2 that there is no such village. */
    private static void holderNowAndNoSuch() {
        VillagePay x = new VillagePay();
        x.village(10, 0, 0);
        x.officer(0, 0);
        x.give(0, 0, 1);
        c.is("the day ahead of the order's", x.about(0, 5), -1);
        x.days(1);
        c.is("its day", x.about(0, 5), 0);
        x.dies(0);
        c.is("the day of its death", x.about(0, 5), -1);
        c.is("no such village", x.about(1, 5), -2);
    }

    private static int over(int squeeze, String rules) {
        VillagePay x = new VillagePay();
        x.village(10, 0, 0);
        x.officer(0, 0);
        x.give(0, 0, 0);
        Checks.rules(x, 0, rules);
        x.squeeze(0, squeeze);
        c.is("count(10) with " + squeeze + ", " + rules, x.count(10), x.about(0, 6));
        return x.about(0, 6);
    }

    /** Term 3: "OVER: a HOLDER's VILLAGE whose SQUEEZE is above its TAKE of now." */
    private static void overOnlyAboveTake() {
        c.is("150 without rules", over(150, ""), 0);
        c.is("150 of take 150", over(150, "take 150;"), 0);
        c.is("150 of take 149", over(150, "take 149;"), 1);
        c.is("149 of take 149", over(149, "take 149;"), 0);
        c.is("50 of take 50", over(50, "take 50;"), 0);
        c.is("51 of take 50", over(51, "take 50;"), 1);
        c.is("100 of take 100", over(100, "take 100;"), 0);
        c.is("101 of take 100", over(101, "take 100;"), 1);
    }

    /** The same sentence: of THE CROWN's villages none is OVER, and TAKE is that of now. */
    private static void overOnlyOfAHolder() {
        VillagePay x = new VillagePay();
        x.village(10, 0, 0);
        x.squeeze(0, 150);
        x.officer(0, 0);
        Checks.rules(x, 10, "take 50;");
        c.is("of THE CROWN", x.about(0, 6), 0);
        x.give(0, 0, 5);
        x.days(5);
        c.is("held, ahead of the rules", x.about(0, 6), 0);
        x.days(4);
        c.is("the day ahead of the rules'", x.about(0, 6), 0);
        x.days(1);
        c.is("by the rules", x.about(0, 6), 1);
        x.dies(0);
        c.is("its holder is dead", x.about(0, 6), 0);
        c.is("none is OVER", x.count(10), 0);
    }
}
