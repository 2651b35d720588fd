/** The edges of Term 2 and of promises 8 to 15; each test bears the sentence that it holds the class to. */
public final class BookEdgesTest {
    private static final Checks c = new Checks("BookEdgesTest");
    private static final Edges e = new Edges(c);
    private static final Edges.Life NEW = x -> { };
    private static final Edges.Life TOWN = Edges::town;
    private static final Edges.Life TEN = BookEdgesTest::ten;
    private static final Edges.Life FULL = BookEdgesTest::fullBook;

    public static void main(String[] args) {
        officersAtMost10();
        rankFrom0To9();
        kinFrom0To9();
        officersFrom0On();
        theyServeFromTheirComing();
        theyServeUpToTheDayAheadOfDeath();
        comingAndDyingOnOneDay();
        servingAtTheEndsOfTime();
        diesOfNoneSuch();
        diesOfTheDead();
        ordersAtMost100();
        giveOfNoneSuch();
        giveToTheCrown();
        giveFromAnyDay();
        giveToTheDead();
        raiseOfNoneSuch();
        raiseToAnotherRank();
        raiseFromAnyDay();
        ordersFrom0On();
        orderOfNoneSuch();
        orderForAnotherWhat();
        holderOfNoneSuch();
        holderByTheLatestDay();
        holderByTheOneWrittenLast();
        holderIfThereIsNoOrder();
        holderThatDidNotServe();
        asKnownOnlyThoseWrittenByThen();
        knownFrom0UpToNow();
        rankOfNoneSuch();
        rankOnADayOfNoService();
        rankByOrders();
        hadOfNoneSuch();
        hadOfOneThatDidNotEnd();
        hadByDays();
        hadIsCutOfEachVillage();
        hadLessCrown();
        hadByTheFirstDay();
        hadOfAllVillages();
        c.finish();
    }

    private static void ten(VillagePay x) {
        x.village(100, 0, 0);
        for (int i = 0; i < 10; i++) {
            x.officer(i, 9 - i);
        }
    }

    /** 100 orders: 50 of a village, 50 of a rank. */
    private static void fullBook(VillagePay x) {
        x.village(100, 0, 0);
        x.village(200, 1, 1);
        x.officer(3, 3);
        for (int i = 0; i < 50; i++) {
            x.give(0, 0, 10 * i);
            x.raise(0, i % 10, 10 * i + 5);
        }
    }

    // ---- promise 8

    /** "OFFICERS, at most 10"; "NONE: there are 10". */
    private static void officersAtMost10() {
        VillagePay x = new VillagePay();
        for (int i = 0; i < 10; i++) {
            c.is("officer " + i + " of 10", x.officer(9, 9), i);
        }
        e.refused("an 11th officer", TEN, -1, y -> y.officer(0, 0));
        e.refused("an 11th officer, of the highest", TEN, -1, y -> y.officer(9, 9));
        Edges.Life oneDead = y -> {
            ten(y);
            y.days(1);
            y.dies(9);
        };
        e.refused("an 11th officer, though one is dead", oneDead, -1, y -> y.officer(0, 0));
    }

    /** "a RANK, 0 .. 9"; "NONE: [..] other numbers". */
    private static void rankFrom0To9() {
        for (int rank : Edges.beside(0, 9)) {
            e.refused("officer(" + rank + ", 0)", TOWN, -1, x -> x.officer(rank, 0));
            e.refused("new: officer(" + rank + ", 9)", NEW, -1, x -> x.officer(rank, 9));
        }
        for (int rank : new int[] {0, 9}) {
            VillagePay x = new VillagePay();
            c.is("officer(" + rank + ", 5)", x.officer(rank, 5), 0);
            c.is("its rank", x.rank(0, 0, 0), rank);
        }
    }

    /** "a KIN, 0 .. 9"; "NONE: [..] other numbers". */
    private static void kinFrom0To9() {
        for (int kin : Edges.beside(0, 9)) {
            e.refused("officer(0, " + kin + ")", TOWN, -1, x -> x.officer(0, kin));
            e.refused("new: officer(9, " + kin + ")", NEW, -1, x -> x.officer(9, kin));
        }
        for (int kin : new int[] {0, 9}) {
            VillagePay x = new VillagePay();
            c.is("officer(5, " + kin + ")", x.officer(5, kin), 0);
            Checks.rules(x, 0, "if kin=" + kin + ":pay 1;");
            c.is("its kin", x.scale(0, 0, 0, 0), 1);
        }
    }

    /** "OFFICERS [..] from 0 on": a refused one takes no number. */
    private static void officersFrom0On() {
        VillagePay x = new VillagePay();
        x.officer(10, 0);
        c.is("the first that is taken", x.officer(4, 0), 0);
        x.officer(0, -1);
        c.is("the second that is taken", x.officer(6, 0), 1);
        c.is("rank of the first", x.rank(0, 0, 0), 4);
        c.is("rank of the second", x.rank(1, 0, 0), 6);
    }

    // ---- Term 2: how long they serve

    private static void serves(VillagePay x, int officer, int day, boolean want) {
        int now = x.count(4);
        c.is("officer " + officer + " serves on " + day, x.rank(officer, day, now) != -1, want);
        c.is("officer " + officer + " has a scale on " + day, x.scale(officer, day, now, 1), want ? 12 : -1);
        c.is("officer " + officer + " holds on " + day, x.holder(officer, day, now), want ? officer : -1);
    }

    /** "they serve from the DAY on which they come". */
    private static void theyServeFromTheirComing() {
        VillagePay x = new VillagePay();
        x.village(10, 0, 0);
        x.village(10, 0, 0);
        x.officer(0, 0);
        x.days(77);
        x.officer(1, 1);
        x.give(0, 0, 0);
        x.give(1, 1, 0);
        serves(x, 0, 0, true);
        serves(x, 1, 0, false);
        serves(x, 1, 76, false);
        serves(x, 1, 77, true);
        serves(x, 1, 1199, true);
    }

    /** "up to the DAY ahead of that on which they die, if they do". */
    private static void theyServeUpToTheDayAheadOfDeath() {
        VillagePay x = new VillagePay();
        x.village(10, 0, 0);
        x.officer(0, 0);
        x.give(0, 0, 0);
        x.days(90);
        serves(x, 0, 90, true);
        x.dies(0);
        serves(x, 0, 89, true);
        serves(x, 0, 90, false);
        serves(x, 0, 1199, false);
        c.is("none serves now", x.count(8), 0);
        x.days(10);
        serves(x, 0, 89, true);
        serves(x, 0, 90, false);
    }

    /** One that dies on the day on which it came has no day of service. */
    private static void comingAndDyingOnOneDay() {
        for (int day : new int[] {0, 60, 1199}) {
            VillagePay x = new VillagePay();
            x.village(10, 0, 0);
            Edges.goTo(x, day);
            x.officer(0, 0);
            x.give(0, 0, 0);
            c.is("one serves", x.count(8), 1);
            c.yes("it dies on day " + day, x.dies(0));
            serves(x, 0, day, false);
            serves(x, 0, Math.max(0, day - 1), false);
            serves(x, 0, Math.min(1199, day + 1), false);
            c.is("none serves", x.count(8), 0);
            c.is("it has a number still", x.count(1), 1);
        }
    }

    /** The first and the last of all days. */
    private static void servingAtTheEndsOfTime() {
        VillagePay x = new VillagePay();
        x.village(10, 0, 0);
        x.village(10, 0, 0);
        x.officer(0, 0);
        x.give(0, 0, 0);
        Edges.goTo(x, 1199);
        x.officer(1, 1);
        x.give(1, 1, 1199);
        serves(x, 0, 0, true);
        serves(x, 0, 1199, true);
        serves(x, 1, 1198, false);
        serves(x, 1, 1199, true);
        c.yes("one dies on the last day", x.dies(0));
        serves(x, 0, 1198, true);
        serves(x, 0, 1199, false);
    }

    // ---- promise 9

    /** "false: there is none such". */
    private static void diesOfNoneSuch() {
        for (int officer : Edges.beside(0, 2)) {
            e.refused("dies(" + officer + ")", TOWN, 0, x -> Edges.bit(x.dies(officer)));
        }
        for (int officer : new int[] {-1, 0, 9, 10}) {
            e.refused("new: dies(" + officer + ")", NEW, 0, x -> Edges.bit(x.dies(officer)));
        }
        e.refused("dies(10) of ten", TEN, 0, x -> Edges.bit(x.dies(10)));
        e.changes("dies(9) of ten", TEN, 1, x -> Edges.bit(x.dies(9)));
        e.changes("dies(0) of ten", TEN, 1, x -> Edges.bit(x.dies(0)));
    }

    /** "false: [..] it is dead": it stays dead since the first day on which it was. */
    private static void diesOfTheDead() {
        e.refused("one that died long ago", TOWN, 0, x -> Edges.bit(x.dies(2)));
        Edges.Life today = x -> {
            Edges.town(x);
            x.dies(0);
        };
        e.refused("one that died today", today, 0, x -> Edges.bit(x.dies(0)));
        VillagePay x = new VillagePay();
        x.officer(5, 5);
        x.dies(0);
        c.no("one that died on day 0, on day 0", x.dies(0));
        x.days(1);
        c.no("and on day 1", x.dies(0));
        c.is("it did not serve on day 0", x.rank(0, 0, 1), -1);
        Edges.goTo(x, 1199);
        x.officer(5, 5);
        c.yes("on the last day", x.dies(1));
        c.no("on the last day, twice", x.dies(1));
    }

    // ---- promises 10 and 11: both fill THE BOOK

    /** "THE BOOK has at most 100 ORDERS"; "NONE: [..] there are 100". */
    private static void ordersAtMost100() {
        e.refused("a 101st order, give", FULL, -1, x -> x.give(1, 0, 0));
        e.refused("a 101st order, give to THE CROWN", FULL, -1, x -> x.give(0, -1, 1199));
        e.refused("a 101st order, raise", FULL, -1, x -> x.raise(0, 9, 0));
        e.answers("100 are there", FULL, 100, x -> x.count(2));
        VillagePay gives = new VillagePay();
        VillagePay raises = new VillagePay();
        for (VillagePay x : new VillagePay[] {gives, raises}) {
            x.village(5, 0, 0);
            x.officer(0, 0);
        }
        for (int i = 0; i < 100; i++) {
            c.is("give " + i, gives.give(0, 0, i), i);
            c.is("raise " + i, raises.raise(0, 3, i), i);
        }
        c.is("a 101st give", gives.give(0, 0, 0), -1);
        c.is("a raise behind 100 gives", gives.raise(0, 0, 0), -1);
        c.is("a 101st raise", raises.raise(0, 0, 0), -1);
        c.is("a give behind 100 raises", raises.give(0, 0, 0), -1);
        gives.days(1);
        c.is("nor on another day", gives.give(0, 0, 0), -1);
    }

    /** "NONE: there is none such (of any)". */
    private static void giveOfNoneSuch() {
        for (int village : Edges.beside(0, 2)) {
            e.refused("give(" + village + ", 0, 0)", TOWN, -1, x -> x.give(village, 0, 0));
            e.refused("give(" + village + ", -1, 1199)", TOWN, -1, x -> x.give(village, -1, 1199));
        }
        for (int officer : new int[] {Edges.LEAST, -2, 3, Edges.MOST}) {
            e.refused("give(0, " + officer + ", 0)", TOWN, -1, x -> x.give(0, officer, 0));
        }
        for (int day : Edges.beside(0, 1199)) {
            e.refused("give(0, 0, " + day + ")", TOWN, -1, x -> x.give(0, 0, day));
            e.refused("give(0, -1, " + day + ")", TOWN, -1, x -> x.give(0, -1, day));
        }
        e.refused("new: give(0, -1, 0)", NEW, -1, x -> x.give(0, -1, 0));
        e.refused("new: give(0, 0, 0)", NEW, -1, x -> x.give(0, 0, 0));
        e.refused("a village, but no officer", x -> x.village(5, 0, 0), -1, x -> x.give(0, 0, 0));
        e.refused("an officer, but no village", x -> x.officer(5, 0), -1, x -> x.give(0, 0, 0));
        e.refused("the 11th officer", TEN, -1, x -> x.give(0, 10, 0));
        e.changes("the 10th officer", TEN, 0, x -> x.give(0, 9, 0));
        e.changes("the last village and officer", TOWN, 4, x -> x.give(2, 2, 60));
        e.changes("the first village and officer", TOWN, 4, x -> x.give(0, 0, 119));
    }

    /** "(NONE: THE CROWN)". */
    private static void giveToTheCrown() {
        VillagePay x = new VillagePay();
        x.village(5, 0, 0);
        c.is("with no officer at all", x.give(0, VillagePay.NONE, 0), 0);
        c.is("its holder", x.holder(0, 0, 0), -1);
        c.is("whom the order names", x.order(0, 2), -1);
        x.officer(0, 0);
        x.give(0, 0, 0);
        c.is("given", x.about(0, 5), 0);
        x.give(0, VillagePay.NONE, 0);
        c.is("taken again", x.about(0, 5), -1);
    }

    /** "from a DAY on (any DAY, 0 .. 1199)": a day that went by, or one to come. */
    private static void giveFromAnyDay() {
        for (int day : new int[] {0, 1, 129, 130, 131, 1198, 1199}) {
            VillagePay x = new VillagePay();
            x.village(5, 0, 0);
            x.officer(0, 0);
            x.days(130);
            c.is("give(0, 0, " + day + ")", x.give(0, 0, day), 0);
            c.is("on that day", x.holder(0, day, 130), 0);
            c.is("on the last day", x.holder(0, 1199, 130), 0);
            c.is("on the day ahead", day == 0 ? -1 : x.holder(0, day - 1, 130), -1);
            c.is("the day in the order", x.order(0, 3), day);
            c.is("the day on which it was written", x.order(0, 4), 130);
        }
    }

    /** An order may name one that is dead, or that came later: it holds as long as it served. */
    private static void giveToTheDead() {
        VillagePay x = Edges.led(TOWN);
        c.is("give to the dead", x.give(2, 2, 10), 4);
        c.is("while it lived", x.holder(2, 69, 130), 2);
        c.is("as it died", x.holder(2, 70, 130), -1);
        c.is("raise of the dead", x.raise(2, 7, 0), 5);
        c.is("its rank while it lived", x.rank(2, 69, 130), 7);
    }

    /** "NONE: there is none such (of any)". */
    private static void raiseOfNoneSuch() {
        for (int officer : Edges.beside(0, 2)) {
            e.refused("raise(" + officer + ", 5, 0)", TOWN, -1, x -> x.raise(officer, 5, 0));
        }
        for (int day : Edges.beside(0, 1199)) {
            e.refused("raise(0, 5, " + day + ")", TOWN, -1, x -> x.raise(0, 5, day));
        }
        e.refused("new: raise(0, 0, 0)", NEW, -1, x -> x.raise(0, 0, 0));
        e.refused("the 11th officer", TEN, -1, x -> x.raise(10, 0, 0));
        e.changes("the 10th officer", TEN, 0, x -> x.raise(9, 0, 0));
        e.changes("the first officer", TEN, 0, x -> x.raise(0, 9, 0));
    }

    /** "NONE: [..] another RANK". */
    private static void raiseToAnotherRank() {
        for (int rank : Edges.beside(0, 9)) {
            e.refused("raise(1, " + rank + ", 0)", TOWN, -1, x -> x.raise(1, rank, 0));
        }
        for (int rank : new int[] {0, 9}) {
            VillagePay x = Edges.led(TOWN);
            c.is("raise(1, " + rank + ", 130)", x.raise(1, rank, 130), 4);
            c.is("its rank", x.rank(1, 130, 130), rank);
        }
        VillagePay x = Edges.led(TOWN);
        c.is("to the rank that it has", x.raise(1, 5, 130), 4);
        c.is("its rank", x.rank(1, 130, 130), 5);
    }

    /** "an OFFICER has a RANK from a DAY on". */
    private static void raiseFromAnyDay() {
        for (int day : new int[] {0, 1, 129, 130, 131, 1198, 1199}) {
            VillagePay x = new VillagePay();
            x.officer(4, 0);
            x.days(130);
            c.is("raise(0, 8, " + day + ")", x.raise(0, 8, day), 0);
            c.is("on that day", x.rank(0, day, 130), 8);
            c.is("on the last day", x.rank(0, 1199, 130), 8);
            c.is("on the day ahead", day == 0 ? 4 : x.rank(0, day - 1, 130), 4);
        }
    }

    // ---- promise 12

    /** "its number": gives and raises are numbered in one row, and a refused one takes no number. */
    private static void ordersFrom0On() {
        VillagePay x = new VillagePay();
        x.village(5, 0, 0);
        x.officer(0, 0);
        x.give(0, 0, 1200);
        c.is("the first", x.give(0, 0, 7), 0);
        x.raise(0, 10, 0);
        c.is("the second", x.raise(0, 9, 8), 1);
        x.give(1, 0, 0);
        c.is("the third", x.give(0, -1, 9), 2);
        int[][] want = {{0, 0, 0, 7, 0}, {1, 9, 0, 8, 0}, {0, 0, -1, 9, 0}};
        for (int o = 0; o < 3; o++) {
            for (int what = 0; what < 5; what++) {
                c.is("order(" + o + ", " + what + ")", x.order(o, what), want[o][what]);
            }
        }
    }

    /** "-2 if there is none such". */
    private static void orderOfNoneSuch() {
        for (int what = 0; what < 5; what++) {
            int w = what;
            for (int order : Edges.beside(0, 3)) {
                e.answers("order(" + order + ", " + w + ")", TOWN, -2, x -> x.order(order, w));
            }
            e.answers("new: order(0, " + w + ")", NEW, -2, x -> x.order(0, w));
            e.answers("order(100, " + w + ") of 100", FULL, -2, x -> x.order(100, w));
        }
        e.answers("the 100th", FULL, 495, x -> x.order(99, 3));
        e.answers("the first", FULL, 0, x -> x.order(0, 3));
        e.refused("order(4, 0)", TOWN, -2, x -> x.order(4, 0));
    }

    /** "-2 [..] for another what". */
    private static void orderForAnotherWhat() {
        for (int what : Edges.beside(0, 4)) {
            e.refused("order(0, " + what + ")", TOWN, -2, x -> x.order(0, what));
            e.answers("order(2, " + what + ")", TOWN, -2, x -> x.order(2, what));
            e.answers("order(4, " + what + ")", TOWN, -2, x -> x.order(4, what));
        }
        long[] want = {1, 4, 0, 90, 0};
        for (int what = 0; what < 5; what++) {
            int w = what;
            e.answers("order(2, " + w + ")", TOWN, want[w], x -> x.order(2, w));
        }
    }

    // ---- promise 13

    /** "-2: there is none such (of any)." */
    private static void holderOfNoneSuch() {
        for (int village : Edges.beside(0, 2)) {
            e.refused("holder(" + village + ", 0, 0)", TOWN, -2, x -> x.holder(village, 0, 0));
        }
        for (int day : Edges.beside(0, 1199)) {
            e.refused("holder(0, " + day + ", 130)", TOWN, -2, x -> x.holder(0, day, 130));
        }
        for (int k : Edges.beside(0, 130)) {
            e.refused("holder(0, 0, " + k + ")", TOWN, -2, x -> x.holder(0, 0, k));
        }
        e.answers("new: holder(0, 0, 0)", NEW, -2, x -> x.holder(0, 0, 0));
        e.answers("the first day, known on it", TOWN, 0, x -> x.holder(0, 0, 0));
        e.answers("the last day, known now", TOWN, 0, x -> x.holder(2, 1199, 130));
        e.answers("THE CROWN", TOWN, -1, x -> x.holder(2, 149, 130));
    }

    /** "by the ORDER for it with the latest DAY that is not later". */
    private static void holderByTheLatestDay() {
        VillagePay x = new VillagePay();
        x.village(5, 0, 0);
        x.officer(0, 0);
        x.officer(0, 0);
        x.officer(0, 0);
        x.give(0, 2, 1199);
        x.give(0, 1, 20);
        x.give(0, 0, 10);
        int[][] want = {{0, -1}, {9, -1}, {10, 0}, {19, 0}, {20, 1}, {21, 1}, {1198, 1}, {1199, 2}};
        for (int[] w : want) {
            c.is("holder on " + w[0], x.holder(0, w[0], 0), w[1]);
        }
    }

    /** "of several the one written last". */
    private static void holderByTheOneWrittenLast() {
        VillagePay x = new VillagePay();
        x.village(5, 0, 0);
        x.officer(0, 0);
        x.officer(0, 0);
        x.officer(0, 0);
        x.give(0, 0, 10);
        x.give(0, 1, 10);
        c.is("two on one day", x.holder(0, 10, 0), 1);
        x.give(0, 2, 10);
        x.give(0, 0, 9);
        c.is("three on one day, then one ahead of it", x.holder(0, 10, 0), 2);
        c.is("the day ahead", x.holder(0, 9, 0), 0);
        x.days(1);
        x.give(0, 0, 10);
        c.is("one written on a later day", x.holder(0, 10, 1), 0);
        c.is("as known ahead", x.holder(0, 10, 0), 2);
        x.give(0, -1, 10);
        c.is("THE CROWN, last", x.holder(0, 10, 1), -1);
    }

    /** "THE CROWN, if there is none": for that village, and not later. */
    private static void holderIfThereIsNoOrder() {
        VillagePay x = new VillagePay();
        x.village(5, 0, 0);
        x.village(5, 0, 0);
        x.officer(0, 0);
        c.is("an empty book", x.holder(0, 1199, 0), -1);
        x.give(1, 0, 0);
        c.is("an order for another village", x.holder(0, 1199, 0), -1);
        x.raise(0, 0, 0);
        c.is("an order for a rank", x.holder(0, 1199, 0), -1);
        x.give(0, 0, 1199);
        c.is("an order for a later day", x.holder(0, 1198, 0), -1);
        c.is("its day", x.holder(0, 1199, 0), 0);
    }

    /** "or that OFFICER did not serve on that DAY (came later, or was dead by then)": no one of an order ahead holds it. */
    private static void holderThatDidNotServe() {
        VillagePay x = new VillagePay();
        x.village(5, 0, 0);
        x.officer(0, 0);
        x.give(0, 0, 0);
        x.days(50);
        x.officer(0, 0);
        x.give(0, 1, 40);
        int[][] want = {{39, 0}, {40, -1}, {49, -1}, {50, 1}, {1199, 1}};
        for (int[] w : want) {
            c.is("holder on " + w[0], x.holder(0, w[0], 50), w[1]);
        }
        x.days(10);
        x.dies(1);
        int[][] later = {{39, 0}, {49, -1}, {50, 1}, {59, 1}, {60, -1}, {1199, -1}};
        for (int[] w : later) {
            c.is("it is dead: holder on " + w[0], x.holder(0, w[0], 60), w[1]);
        }
        c.is("as known ahead of that order", x.holder(0, 60, 49), 0);
    }

    /** "AS KNOWN on a DAY k [..]: only those written by then." */
    private static void asKnownOnlyThoseWrittenByThen() {
        VillagePay x = new VillagePay();
        x.village(5, 0, 0);
        x.officer(1, 0);
        x.days(30);
        x.give(0, 0, 0);
        x.raise(0, 9, 0);
        x.days(30);
        c.is("the day ahead of the writing", x.holder(0, 60, 29), -1);
        c.is("the day of the writing", x.holder(0, 60, 30), 0);
        c.is("rank, the day ahead of the writing", x.rank(0, 60, 29), 1);
        c.is("rank, the day of the writing", x.rank(0, 60, 30), 9);
        c.is("had, the day ahead", x.had(0, 0, 29), 0);
        c.is("had, the day of the writing", x.had(0, 0, 30), 2);
    }

    /** "AS KNOWN on a DAY k (0 up to now)": of all calls that have a k. */
    private static void knownFrom0UpToNow() {
        Edges.Call[] calls = new Edges.Call[9];
        for (int k : new int[] {Edges.LEAST, -1, 0, 130, 131, 1199, 1200, Edges.MOST}) {
            calls[0] = x -> x.holder(0, 0, k) != -2 ? 1 : 0;
            calls[1] = x -> x.rank(0, 0, k) != -1 ? 1 : 0;
            calls[2] = x -> x.had(0, 0, k) != -1 ? 1 : 0;
            calls[3] = x -> x.scale(0, 0, k, 1) != -1 ? 1 : 0;
            calls[4] = x -> x.due(0, 0, k) != -1 ? 1 : 0;
            calls[5] = x -> x.balance(0, 0, k) != -1000000000 ? 1 : 0;
            calls[6] = x -> x.trust(0, k) != -1 ? 1 : 0;
            calls[7] = x -> x.weighed(0, 0, k) != -1 ? 1 : 0;
            calls[8] = x -> Edges.bit(x.famine(1, 3, k));
            for (int i = 0; i < 9; i++) {
                // the words of the famine were said on day 130
                boolean known = k >= 0 && k <= 130 && (i != 8 || k == 130);
                e.answers("call " + i + " as known on " + k, TOWN, known ? 1 : 0, calls[i]);
            }
        }
    }

    // ---- promise 14

    /** "NONE: there is none such (of any)". */
    private static void rankOfNoneSuch() {
        for (int officer : Edges.beside(0, 2)) {
            e.refused("rank(" + officer + ", 0, 0)", TOWN, -1, x -> x.rank(officer, 0, 0));
        }
        for (int day : Edges.beside(0, 1199)) {
            e.refused("rank(0, " + day + ", 130)", TOWN, -1, x -> x.rank(0, day, 130));
        }
        for (int k : Edges.beside(0, 130)) {
            e.refused("rank(0, 0, " + k + ")", TOWN, -1, x -> x.rank(0, 0, k));
        }
        e.answers("new: rank(0, 0, 0)", NEW, -1, x -> x.rank(0, 0, 0));
        e.answers("the first of ten", TEN, 0, x -> x.rank(0, 0, 0));
        e.answers("the last of ten", TEN, 9, x -> x.rank(9, 1199, 0));
        e.answers("no 11th", TEN, -1, x -> x.rank(10, 0, 0));
    }

    /** "NONE: [..] it did not serve on that DAY." */
    private static void rankOnADayOfNoService() {
        VillagePay x = new VillagePay();
        x.days(10);
        x.officer(0, 0);
        x.raise(0, 6, 0);
        x.days(10);
        x.dies(0);
        int[][] want = {{0, -1}, {9, -1}, {10, 6}, {19, 6}, {20, -1}, {1199, -1}};
        for (int[] w : want) {
            c.is("rank on " + w[0], x.rank(0, w[0], 20), w[1]);
        }
        c.is("rank 0 is a rank, as known ahead of the order", x.rank(0, 10, 9), 0);
    }

    /** "RANK of an OFFICER on a DAY: alike by ORDERS for its RANK; else the one it came with." */
    private static void rankByOrders() {
        VillagePay x = new VillagePay();
        x.village(5, 0, 0);
        x.officer(3, 0);
        x.officer(4, 0);
        x.raise(0, 8, 20);
        x.raise(0, 7, 10);
        x.raise(0, 6, 10);
        x.raise(1, 1, 15);
        x.give(0, 0, 12);
        int[][] want = {{0, 3}, {9, 3}, {10, 6}, {19, 6}, {20, 8}, {1199, 8}};
        for (int[] w : want) {
            c.is("rank on " + w[0], x.rank(0, w[0], 0), w[1]);
        }
        c.is("another one's, the day ahead of its order", x.rank(1, 14, 0), 4);
        c.is("another one's", x.rank(1, 15, 0), 1);
        x.raise(0, 0, 0);
        c.is("from day 0 on", x.rank(0, 0, 0), 0);
        c.is("up to the next order's day", x.rank(0, 9, 0), 0);
    }

    // ---- promise 15

    /** "NONE: there is none such (of any)". */
    private static void hadOfNoneSuch() {
        for (int officer : Edges.beside(0, 2)) {
            e.refused("had(" + officer + ", 0, 130)", TOWN, -1, x -> x.had(officer, 0, 130));
        }
        for (int season : Edges.beside(0, 19)) {
            e.refused("had(0, " + season + ", 130)", TOWN, -1, x -> x.had(0, season, 130));
        }
        for (int k : Edges.beside(0, 130)) {
            e.refused("had(0, 0, " + k + ")", TOWN, -1, x -> x.had(0, 0, k));
        }
        e.answers("new: had(0, 0, 0)", NEW, -1, x -> x.had(0, 0, 0));
        e.answers("the last officer, which had nothing", TOWN, 0, x -> x.had(2, 0, 130));
        e.answers("the first officer, known on day 0", TOWN, 250, x -> x.had(0, 0, 0));
    }

    /** "NONE: [..] it did not end." */
    private static void hadOfOneThatDidNotEnd() {
        e.answers("the last that ended", TOWN, 400, x -> x.had(0, 1, 130));
        e.answers("the one that goes on", TOWN, -1, x -> x.had(0, 2, 130));
        e.answers("the last of all", TOWN, -1, x -> x.had(0, 19, 130));
        VillagePay x = new VillagePay();
        x.village(1200, 0, 0);
        x.officer(0, 0);
        x.give(0, 0, 0);
        for (int season = 0; season < 19; season++) {
            x.days(59);
            c.is("on the last day of season " + season, x.had(0, season, 0), -1);
            x.days(1);
            c.is("on the day behind it", x.had(0, season, 0), 600);
        }
        x.days(59);
        c.is("on the last day of all", x.had(0, 19, 0), -1);
    }

    /** "times the DAYS of the SEASON on which it was HOLDER, by 60". */
    private static void hadByDays() {
        int[][] rows = {{60, 120, 600}, {59, 120, 600}, {59, 119, 590}, {61, 120, 590}, {60, 61, 10}, {59, 60, 0},
            {119, 120, 10}, {119, 121, 10}, {120, 121, 0}, {59, 61, 10}, {60, 119, 590}, {59, 121, 600}};
        for (int[] row : rows) {
            VillagePay x = new VillagePay();
            x.village(1200, 0, 0);
            x.officer(0, 0);
            x.give(0, 0, row[0]);
            x.give(0, -1, row[1]);
            x.days(180);
            c.is("held from " + row[0] + " up to " + row[1], x.had(0, 1, 180), row[2]);
        }
        VillagePay x = new VillagePay();
        x.village(1200, 0, 0);
        x.officer(0, 0);
        x.officer(0, 0);
        for (int i = 0; i < 60; i++) {
            x.give(0, i % 2, i);
        }
        x.days(60);
        c.is("every other day", x.had(0, 0, 60), 300);
        c.is("and the days between", x.had(1, 0, 60), 300);
        VillagePay y = new VillagePay();
        y.village(1200, 0, 0);
        y.officer(0, 0);
        y.give(0, 0, 0);
        y.days(59);
        y.dies(0);
        y.officer(0, 0);
        y.give(0, 1, 0);
        y.give(0, 0, 0);
        y.give(0, 1, 59);
        y.days(1);
        c.is("59 days up to its death", y.had(0, 0, 60), 590);
        c.is("one day from its coming", y.had(1, 0, 60), 10);
    }

    /** "of each VILLAGE, [..] by 60, cut; together". */
    private static void hadIsCutOfEachVillage() {
        VillagePay x = new VillagePay();
        for (int v = 0; v < 3; v++) {
            x.village(3, 0, 0);
        }
        x.officer(0, 0);
        for (int v = 0; v < 3; v++) {
            x.give(v, 0, 1);
        }
        x.days(60);
        c.is("three times 59 / 60", x.had(0, 0, 60), 0);
        x.give(2, 0, 0);
        c.is("one whole", x.had(0, 0, 60), 1);
        VillagePay y = new VillagePay();
        y.village(240, 0, 0);
        y.officer(0, 0);
        y.give(0, 0, 59);
        y.days(60);
        c.is("120 / 60 is 2", y.had(0, 0, 60), 2);
        VillagePay z = new VillagePay();
        z.village(238, 0, 0);
        z.officer(0, 0);
        z.give(0, 0, 59);
        z.days(60);
        c.is("119 / 60 is 1", z.had(0, 0, 60), 1);
    }

    private static int hadWith(int paper, int crown, int from) {
        VillagePay x = new VillagePay();
        x.village(paper, 0, 0);
        x.officer(0, 0);
        x.give(0, 0, from);
        Checks.rules(x, 0, "crown " + crown + ";");
        x.days(60);
        return x.had(0, 0, 60);
    }

    /** "COME less so many percent of it, cut, as CROWN of its SCALE tells". */
    private static void hadLessCrown() {
        c.is("crown 0", hadWith(1998, 0, 0), 999);
        c.is("crown 1: 9 less", hadWith(1998, 1, 0), 990);
        c.is("crown 99: 989 less", hadWith(1998, 99, 0), 10);
        c.is("crown 100", hadWith(1998, 100, 0), 0);
        c.is("1 coin, crown 99: 0 less", hadWith(2, 99, 0), 1);
        c.is("1 coin, crown 100", hadWith(2, 100, 0), 0);
        c.is("nothing came", hadWith(1, 50, 0), 0);
        c.is("99 less 9, by 30 days", hadWith(198, 10, 30), 45);
        // 59 of 60 days of 6 are 5; by days first it would be 10 less 4
        c.is("11 less 5, by 59 days", hadWith(22, 49, 1), 5);
    }

    /** "(see 3.; on the SEASON's first DAY; 0 if it did not serve then)". */
    private static void hadByTheFirstDay() {
        for (int came = 59; came <= 61; came++) {
            VillagePay x = new VillagePay();
            x.village(1200, 0, 0);
            Checks.rules(x, 0, "crown 50;");
            x.days(came);
            x.officer(0, 0);
            x.give(0, 0, 0);
            x.days(180 - came);
            c.is("came on " + came, x.had(0, 1, 180), came <= 60 ? 300 : 590);
            c.is("the next season", x.had(0, 2, 180), 300);
        }
        for (int began = 59; began <= 61; began++) {
            VillagePay x = new VillagePay();
            x.village(1200, 0, 0);
            x.officer(0, 0);
            x.give(0, 0, 0);
            Checks.rules(x, began, "crown 50;");
            x.days(120);
            c.is("rules from " + began, x.had(0, 1, 120), began <= 60 ? 300 : 600);
        }
        VillagePay x = new VillagePay();
        x.village(1200, 0, 0);
        x.officer(0, 0);
        x.give(0, 0, 0);
        Checks.rules(x, 0, "if rank>0:crown 50;");
        x.days(70);
        x.raise(0, 1, 60);
        x.days(50);
        c.is("by a rank on the first day", x.had(0, 1, 120), 300);
        c.is("as known ahead of it", x.had(0, 1, 69), 600);
        VillagePay dead = new VillagePay();
        dead.village(1200, 0, 0);
        dead.officer(0, 0);
        dead.give(0, 0, 0);
        dead.days(60);
        dead.dies(0);
        dead.days(60);
        c.is("dead on the first day", dead.had(0, 1, 120), 0);
        c.is("the whole season ahead", dead.had(0, 0, 120), 600);
    }

    /** "of each VILLAGE, [..] together": from none to all twelve. */
    private static void hadOfAllVillages() {
        VillagePay x = new VillagePay();
        for (int v = 0; v < 12; v++) {
            x.village(9999, 0, 0);
            x.squeeze(v, 150);
        }
        x.officer(0, 0);
        x.officer(0, 0);
        x.weather(0, 200);
        for (int v = 0; v < 12; v++) {
            x.give(v, 0, 0);
        }
        x.days(60);
        c.is("the most of all twelve", x.had(0, 0, 60), 12 * 14998);
        c.is("none of them", x.had(1, 0, 60), 0);
        x.give(11, 1, 0);
        c.is("eleven", x.had(0, 0, 60), 11 * 14998);
        c.is("the last one", x.had(1, 0, 60), 14998);
    }
}
