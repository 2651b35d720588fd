/** Promises 23 to 26: which villages of the crown fit one officer, and how they are dealt to some. */
public final class DealTest {
    private static final Checks c = new Checks("DealTest");

    public static void main(String[] args) {
        fit();
        fitTies();
        fitAndKin();
        fitOfManyVillages();
        near();
        deal();
        dealByRule();
        dealBest();
        dealOfSeven();
        dealt();
        c.finish();
    }

    private static VillagePay of(int pay, int... papers) {
        VillagePay x = new VillagePay();
        for (int paper : papers) {
            x.village(paper, 0, 0);
        }
        Checks.rules(x, 0, "pay " + pay + ";");
        return x;
    }

    private static void fit() {
        VillagePay x = of(100, 70, 45, 20);
        c.is("no officer", x.fit(0, 5), -1);
        x.officer(0, 0);
        c.is("fit(-1, 5)", x.fit(-1, 5), -1);
        c.is("fit(1, 5)", x.fit(1, 5), -1);
        c.is("e -1", x.fit(0, -1), -1);
        c.is("e 10000", x.fit(0, 10000), -1);
        c.is("90 is 10 apart", x.fit(0, 9), -1);
        c.is("90 is at most 10 apart", x.fit(0, 10), 5);
        c.is("e 9999", x.fit(0, 9999), 5);
        x.give(2, 0, 0);
        c.is("held now: 70 and 45", x.fit(0, 15), 3);
        c.is("held now", x.fit(0, 14), -1);
        x.dies(0);
        c.is("dead", x.fit(0, 9999), -1);
        VillagePay y = of(3, 10, 7);
        y.officer(0, 0);
        c.is("no set of no village", y.fit(0, 3), -1);
        c.is("the least apart", y.fit(0, 4), 2);
        VillagePay z = new VillagePay();
        z.officer(0, 0);
        c.is("no village at all", z.fit(0, 9999), -1);
    }

    private static void fitTies() {
        VillagePay x = new VillagePay();
        x.village(60, 0, 0);
        x.village(40, 5, 5);
        x.village(40, 3, 4);
        x.village(60, 5, 7);
        x.officer(0, 0);
        Checks.rules(x, 0, "pay 100;");
        c.is("the least near: 1 and 3", x.fit(0, 0), 10);
        x.village(100, 9, 9);
        c.is("one alone has near 0", x.fit(0, 0), 16);
        x.village(100, 0, 9);
        c.is("of two alone the least bits", x.fit(0, 0), 16);
        VillagePay y = new VillagePay();
        y.village(101, 0, 0);
        y.village(99, 0, 0);
        y.village(50, 0, 0);
        y.village(51, 50, 50);
        y.officer(0, 0);
        Checks.rules(y, 0, "pay 100;");
        c.is("above and below are alike far: the least bits", y.fit(0, 5), 1);
    }

    private static void fitAndKin() {
        VillagePay x = of(100, 100, 100, 100, 100);
        x.officer(0, 3);
        x.officer(0, 3);
        x.officer(0, 4);
        c.is("the first", x.fit(0, 0), 1);
        x.give(0, 1, 500);
        c.is("given to its kin, on a day to come", x.fit(0, 0), 2);
        c.is("given to itself", x.fit(1, 0), 2);
        c.is("another kin", x.fit(2, 0), 1);
        x.give(1, 0, 0);
        x.give(1, -1, 0);
        c.is("an order that another one undid", x.fit(1, 0), 4);
        x.give(2, 2, 600);
        c.is("of another kin, on a day to come", x.fit(0, 0), 4);
        x.raise(0, 2, 5);
        c.is("a rank is no village", x.fit(0, 0), 4);
        x.days(1);
        x.dies(1);
        c.is("dead kin counts, too", x.fit(0, 0), 4);
    }

    private static void fitOfManyVillages() {
        VillagePay x = new VillagePay();
        for (int i = 0; i < 12; i++) {
            x.village(1 << i, i, 0);
        }
        x.officer(0, 0);
        Checks.rules(x, 0, "pay 4095;");
        c.is("all twelve", x.fit(0, 0), 4095);
        x.give(11, 0, 0);
        c.is("eleven", x.fit(0, 2048), 2047);
    }

    private static void near() {
        VillagePay x = new VillagePay();
        c.is("near(-1) without villages", x.near(-1), 0);
        x.village(1, 0, 50);
        x.village(1, 3, 40);
        x.village(1, 10, 0);
        c.is("none", x.near(0), 0);
        c.is("one", x.near(2), 0);
        c.is("0 and 1", x.near(3), 13);
        c.is("1 and 2", x.near(6), 47);
        c.is("0 and 2", x.near(5), 60);
        c.is("all", x.near(7), 120);
        c.is("all and those that are none", x.near(-1), 120);
        c.is("those that are none", x.near(~7), 0);
    }

    private static void deal() {
        VillagePay x = of(100, 60, 50);
        for (int i = 0; i < 5; i++) {
            x.officer(0, 0);
        }
        c.is("none", x.deal(0, false), -1);
        c.is("four", x.deal(15, false), -1);
        c.is("one that is none", x.deal(1 | 1 << 5, false), -1);
        c.is("one that can't be", x.deal(1 | 1 << 10, true), -1);
        c.is("one that can't be", x.deal(1 | 1 << 31, true), -1);
        c.is("three", x.deal(7, false), 190);
        c.is("others", x.deal(28, true), 190);
        x.dies(2);
        c.is("one that is dead", x.deal(7, false), -1);
        c.is("without it", x.deal(3, false), 90);
        x.give(0, 4, 0);
        c.is("THE CROWN holds but one", x.deal(3, false), 150);
        x.give(1, 4, 0);
        c.is("THE CROWN holds none", x.deal(3, true), 200);
        c.is("dealt none", x.dealt(3, true, 0), -1);
    }

    private static void gives(VillagePay x, int officers, boolean best, int gap, int... row) {
        String name = best ? "best" : "by rule";
        c.is(name + " gap", x.deal(officers, best), gap);
        for (int v = 0; v < row.length; v++) {
            c.is(name + " of village " + v, x.dealt(officers, best, v), row[v]);
        }
    }

    private static void dealByRule() {
        VillagePay x = of(100, 30, 70, 70, 81, 40);
        x.officer(0, 0);
        x.officer(0, 0);
        // 81 to 0, the first 70 to 1; the other: 1 lacks 30, less than 35; 40 to 1, 10 too many; 30: 0 lacks 19
        gives(x, 3, false, 21, 0, 1, -1, 0, 1);
        VillagePay y = of(5, 11, 10);
        y.officer(0, 0);
        gives(y, 1, false, 5, -1, 0);
        VillagePay z = of(50, 101, 100);
        z.officer(0, 0);
        gives(z, 1, false, 50, -1, 0);
        VillagePay w = of(100, 10, 10, 10);
        w.officer(0, 0);
        w.officer(0, 0);
        w.officer(0, 0);
        gives(w, 6, false, 170, 1, 2, 1);
        gives(w, 7, false, 270, 0, 1, 2);
    }

    private static void dealBest() {
        VillagePay x = of(100, 90, 60, 40, 50, 50);
        x.officer(0, 0);
        x.officer(0, 0);
        gives(x, 3, true, 0, -1, 0, 0, 1, 1);
        gives(x, 1, true, 0, -1, 0, 0, -1, -1);
        gives(x, 2, false, 10, 1, -1, -1, -1, -1);
        gives(x, 3, true, 0, -1, 0, 0, 1, 1);
        VillagePay y = of(10, 20, 5);
        y.officer(0, 0);
        // 20 is as far from 10 as nothing; with 5 the gap is 5
        gives(y, 1, true, 5, -1, 0);
        VillagePay z = of(10, 20);
        z.officer(0, 0);
        z.officer(0, 0);
        gives(z, 3, true, 20, 0);
        gives(z, 2, true, 10, 1);
        VillagePay w = of(0, 20);
        w.officer(0, 0);
        gives(w, 1, true, 0, -1);
        gives(w, 1, false, 0, -1);
    }

    private static void dealOfSeven() {
        VillagePay x = of(8, 1, 1, 1, 1, 1, 1, 1, 1, 9);
        x.officer(0, 0);
        x.officer(0, 1);
        gives(x, 1, true, 1, 0, 0, 0, 0, 0, 0, 0, -1, -1);
        gives(x, 1, false, 1, 0, 0, 0, 0, 0, 0, 0, -1, -1);
        x.give(2, 1, 0);
        gives(x, 1, false, 1, 0, 0, -1, 0, 0, 0, 0, 0, -1);
        x.officer(0, 0);
        gives(x, 7, true, 17, 0, 0, -1, 0, 0, 0, 0, 0, -1);
    }

    private static void dealt() {
        VillagePay x = of(100, 100);
        x.officer(0, 0);
        c.is("village -1", x.dealt(1, true, -1), -1);
        c.is("village 1", x.dealt(1, true, 1), -1);
        c.is("village 0", x.dealt(1, true, 0), 0);
        c.is("no officers", x.dealt(0, true, 0), -1);
        c.is("one that is none", x.dealt(3, true, 0), -1);
        x.dies(0);
        c.is("one that is dead", x.dealt(1, false, 0), -1);
    }
}
