/** Promises 8 to 15: officers, orders, what was known when, and what they had. */
public final class BookTest {
    private static final Checks c = new Checks("BookTest");

    public static void main(String[] args) {
        officer();
        dies();
        give();
        raise();
        order();
        holder();
        holderByWhatWasKnown();
        rank();
        had();
        hadLessTheCrownsPart();
        hadIsCutVillageByVillage();
        c.finish();
    }

    private static void officer() {
        VillagePay x = new VillagePay();
        int[][] wrong = {{-1, 0}, {10, 0}, {0, -1}, {0, 10}};
        for (int[] w : wrong) {
            c.is("officer(" + w[0] + ", " + w[1] + ")", x.officer(w[0], w[1]), -1);
        }
        c.is("officer(0, 9)", x.officer(0, 9), 0);
        c.is("officer(9, 0)", x.officer(9, 0), 1);
        for (int i = 2; i < 10; i++) {
            c.is("officer " + i, x.officer(1, 1), i);
        }
        x.dies(4);
        c.is("an 11th, though one is dead", x.officer(1, 1), -1);
        c.is("count(1)", x.count(1), 10);
        c.is("count(8)", x.count(8), 9);
    }

    private static void dies() {
        VillagePay x = new VillagePay();
        c.no("dies(0) without officers", x.dies(0));
        x.days(7);
        x.officer(5, 0);
        c.no("dies(-1)", x.dies(-1));
        c.no("dies(1)", x.dies(1));
        x.days(3);
        c.yes("dies(0)", x.dies(0));
        c.no("dies(0) again", x.dies(0));
        c.is("rank ahead of its coming", x.rank(0, 6, 10), -1);
        c.is("rank on the day of its coming", x.rank(0, 7, 10), 5);
        c.is("rank on the day ahead of its death", x.rank(0, 9, 10), 5);
        c.is("rank on the day of its death", x.rank(0, 10, 10), -1);
        x.officer(5, 0);
        c.yes("dies on the day of its coming", x.dies(1));
        c.is("never served", x.rank(1, 10, 10), -1);
        c.is("count(8)", x.count(8), 0);
        x.village(5, 0, 0);
        c.is("a dead officer is one for an order", x.give(0, 0, 8), 0);
        c.is("it held on that day", x.holder(0, 9, 10), 0);
        c.is("and not later", x.holder(0, 10, 10), -1);
    }

    private static void give() {
        VillagePay x = new VillagePay();
        x.village(5, 0, 0);
        x.officer(0, 0);
        int[][] wrong = {{-1, 0, 0}, {1, 0, 0}, {0, -2, 0}, {0, 1, 0}, {0, 0, -1}, {0, 0, 1200}};
        for (int[] w : wrong) {
            c.is("give(" + w[0] + ", " + w[1] + ", " + w[2] + ")", x.give(w[0], w[1], w[2]), -1);
        }
        c.is("give(0, 0, 0)", x.give(0, 0, 0), 0);
        c.is("give(0, -1, 1199)", x.give(0, -1, 1199), 1);
        for (int i = 2; i < 100; i++) {
            c.is("order " + i, x.give(0, 0, i), i);
        }
        c.is("a 101st", x.give(0, 0, 0), -1);
        c.is("a 101st by raise", x.raise(0, 0, 0), -1);
        c.is("count(2)", x.count(2), 100);
    }

    private static void raise() {
        VillagePay x = new VillagePay();
        x.officer(0, 0);
        int[][] wrong = {{-1, 0, 0}, {1, 0, 0}, {0, -1, 0}, {0, 10, 0}, {0, 0, -1}, {0, 0, 1200}};
        for (int[] w : wrong) {
            c.is("raise(" + w[0] + ", " + w[1] + ", " + w[2] + ")", x.raise(w[0], w[1], w[2]), -1);
        }
        c.is("raise(0, 9, 1199)", x.raise(0, 9, 1199), 0);
        c.is("raise(0, 0, 0)", x.raise(0, 0, 0), 1);
        for (int i = 2; i < 100; i++) {
            x.raise(0, 1, 5);
        }
        c.is("a 101st", x.raise(0, 1, 5), -1);
    }

    private static void order() {
        VillagePay x = new VillagePay();
        c.is("order(0, 0) of an empty book", x.order(0, 0), -2);
        x.village(5, 0, 0);
        x.village(5, 0, 0);
        x.officer(0, 0);
        x.officer(0, 0);
        x.days(4);
        x.give(1, 0, 33);
        x.days(2);
        x.raise(1, 8, 2);
        x.give(0, -1, 9);
        int[][] want = {{0, 1, 0, 33, 4}, {1, 8, 1, 2, 6}, {0, 0, -1, 9, 6}};
        for (int o = 0; o < 3; o++) {
            for (int what = 0; what < 5; what++) {
                c.is("order(" + o + ", " + what + ")", x.order(o, what), want[o][what]);
            }
            c.is("order(" + o + ", 5)", x.order(o, 5), -2);
            c.is("order(" + o + ", -1)", x.order(o, -1), -2);
        }
        c.is("order(3, 0)", x.order(3, 0), -2);
        c.is("order(-1, 0)", x.order(-1, 0), -2);
    }

    private static void holder() {
        VillagePay x = new VillagePay();
        x.village(5, 0, 0);
        x.village(5, 0, 0);
        x.officer(0, 0);
        x.officer(0, 0);
        int[][] wrong = {{-1, 0, 0}, {2, 0, 0}, {0, -1, 0}, {0, 1200, 0}, {0, 0, -1}, {0, 0, 1}};
        for (int[] w : wrong) {
            c.is("holder(" + w[0] + ", " + w[1] + ", " + w[2] + ")", x.holder(w[0], w[1], w[2]), -2);
        }
        c.is("no order", x.holder(0, 1199, 0), -1);
        x.give(0, 1, 20);
        x.give(0, 0, 10);
        x.give(1, 1, 0);
        c.is("ahead of all", x.holder(0, 9, 0), -1);
        c.is("the one written later for an earlier day", x.holder(0, 10, 0), 0);
        c.is("up to the day ahead", x.holder(0, 19, 0), 0);
        c.is("the latest day", x.holder(0, 20, 0), 1);
        c.is("for good", x.holder(0, 1199, 0), 1);
        x.give(0, 0, 20);
        c.is("of two for one day the one written last", x.holder(0, 20, 0), 0);
        x.give(0, -1, 30);
        c.is("THE CROWN by an order", x.holder(0, 30, 0), -1);
        c.is("the other village", x.holder(1, 30, 0), 1);
        x.raise(0, 1, 35);
        c.is("an order for a rank is none for a village", x.holder(1, 40, 0), 1);
        x.days(40);
        x.officer(0, 0);
        x.give(1, 2, 20);
        c.is("it came later: THE CROWN, not the one ahead", x.holder(1, 39, 40), -1);
        c.is("it has come", x.holder(1, 40, 40), 2);
    }

    private static void holderByWhatWasKnown() {
        VillagePay x = new VillagePay();
        x.village(5, 0, 0);
        x.officer(0, 0);
        x.officer(0, 0);
        x.days(10);
        x.give(0, 0, 0);
        x.days(10);
        x.give(0, 1, 5);
        c.is("known on 9", x.holder(0, 5, 9), -1);
        c.is("known on 10", x.holder(0, 5, 10), 0);
        c.is("known on 19", x.holder(0, 5, 19), 0);
        c.is("known on 20", x.holder(0, 5, 20), 1);
        c.is("known on 20, of day 4", x.holder(0, 4, 20), 0);
        c.is("known on 21 is not yet", x.holder(0, 4, 21), -2);
        x.days(5);
        x.dies(1);
        c.is("a death counts, as known ahead of it, too", x.holder(0, 25, 20), -1);
        c.is("the day ahead of it", x.holder(0, 24, 20), 1);
        c.is("the other one lives", x.holder(0, 25, 10), 0);
    }

    private static void rank() {
        VillagePay x = new VillagePay();
        x.officer(3, 0);
        x.officer(6, 0);
        int[][] wrong = {{-1, 0, 0}, {2, 0, 0}, {0, -1, 0}, {0, 1200, 0}, {0, 0, -1}, {0, 0, 1}};
        for (int[] w : wrong) {
            c.is("rank(" + w[0] + ", " + w[1] + ", " + w[2] + ")", x.rank(w[0], w[1], w[2]), -1);
        }
        x.village(5, 0, 0);
        x.give(0, 0, 0);
        c.is("the one it came with", x.rank(0, 1199, 0), 3);
        x.days(5);
        x.raise(0, 9, 50);
        x.raise(0, 7, 40);
        x.days(5);
        x.raise(0, 1, 50);
        c.is("day 39", x.rank(0, 39, 10), 3);
        c.is("day 40", x.rank(0, 40, 10), 7);
        c.is("day 50, written last", x.rank(0, 50, 10), 1);
        c.is("day 50, known on 9", x.rank(0, 50, 9), 9);
        c.is("day 50, known on 4", x.rank(0, 50, 4), 3);
        c.is("the other one", x.rank(1, 50, 10), 6);
    }

    private static void had() {
        VillagePay x = new VillagePay();
        x.village(1200, 0, 0);
        x.village(600, 0, 0);
        x.officer(0, 0);
        x.officer(0, 1);
        x.give(0, 0, 0);
        x.give(0, 1, 30);
        x.give(1, 0, 45);
        x.days(59);
        c.is("had in a season that did not end", x.had(0, 0, 59), -1);
        x.days(1);
        int[][] wrong = {{-1, 0, 60}, {2, 0, 60}, {0, -1, 60}, {0, 20, 60}, {0, 0, -1}, {0, 0, 61}, {0, 1, 60}};
        for (int[] w : wrong) {
            c.is("had(" + w[0] + ", " + w[1] + ", " + w[2] + ")", x.had(w[0], w[1], w[2]), -1);
        }
        c.is("30 days of 600 and 15 of 300", x.had(0, 0, 60), 375);
        c.is("30 days of 600", x.had(1, 0, 60), 300);
        x.give(0, 0, 59);
        c.is("one day more", x.had(0, 0, 60), 385);
        c.is("as known ahead", x.had(0, 0, 59), 375);
        c.is("one day less", x.had(1, 0, 60), 290);
        x.days(20);
        x.dies(0);
        x.days(40);
        c.is("20 days till its death", x.had(0, 1, 120), 300);
        x.days(60);
        c.is("nothing behind it", x.had(0, 2, 180), 0);
    }

    private static void hadLessTheCrownsPart() {
        VillagePay x = new VillagePay();
        x.village(1998, 0, 0);
        x.officer(0, 0);
        x.give(0, 0, 0);
        x.days(30);
        x.officer(0, 1);
        x.give(0, 1, 50);
        Checks.rules(x, 0, "crown 10;");
        Checks.rules(x, 1, "crown 90;");
        x.days(30);
        c.is("come", x.come(0, 0), 999);
        c.is("999 less 99, by the rules of the first day", x.had(0, 0, 60), 750);
        c.is("no part of one that came in the season", x.had(1, 0, 60), 166);
        x.days(60);
        c.is("999 less 899", x.had(1, 1, 120), 100);
    }

    private static void hadIsCutVillageByVillage() {
        VillagePay x = new VillagePay();
        x.village(2, 0, 0);
        x.village(2, 0, 0);
        x.officer(0, 0);
        x.give(0, 0, 1);
        x.give(1, 0, 1);
        x.days(60);
        c.is("59 of 60 days of 1 coin, twice", x.had(0, 0, 60), 0);
        x.give(0, 0, 0);
        c.is("one whole", x.had(0, 0, 60), 1);
    }
}
