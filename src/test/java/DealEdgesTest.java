/** The edges of Term 4 and of promises 23 to 30; each test bears the sentence that it holds the class to. */
public final class DealEdgesTest {
    private static final Checks c = new Checks("DealEdgesTest");
    private static final Edges e = new Edges(c);
    private static final Edges.Life NEW = x -> { };
    private static final Edges.Life TOWN = Edges::town;

    public static void main(String[] args) {
        fitOfNoneSuch();
        fitOfOneThatDoesNotServe();
        fitForEFrom0To9999();
        fitAtMostEApart();
        fitOfNoVillageIsNone();
        fitOfTheLeastApart();
        fitOfSeveralByNear();
        fitOfSeveralByBits();
        fitOfWhatTheCrownHoldsNow();
        fitOfWhatNoKinHeld();
        fitOfTwelve();
        nearOfAnyBits();
        nearOfNoneOneAndAll();
        nearFromEndToEnd();
        dealOfNone();
        dealOfOneToThree();
        dealOfOneThatDoesNotServe();
        dealOfBitsThatAreNoOfficers();
        dealOfNoVillage();
        dealOfSevenVillages();
        dealByHalfThePaper();
        dealByRuleOfSeveral();
        dealBestOfSeveral();
        dealBestOfTheMost();
        dealsOneAfterTheOther();
        dealtOfNoSuchVillage();
        dealtOfOneThatIsNotDealt();
        dealtAsDeal();
        movesOfAllOfficers();
        moveOfNoSuchTwo();
        moveOfOneThatHasAMove();
        moveOfOneThatDoesNotServe();
        stayForgetsAll();
        idleWithoutMoves();
        idleOfCircles();
        idleLosesAll();
        rowOfMovesThatCanBeDone();
        movedOfNoSuchPlace();
        movesChangeNothing();
        c.finish();
    }

    /** Villages of these papers in one place, and rules by which each officer is due that pay. */
    private static VillagePay of(int officers, int pay, int... papers) {
        VillagePay x = new VillagePay();
        for (int paper : papers) {
            x.village(paper, 0, 0);
        }
        for (int i = 0; i < officers; i++) {
            x.officer(i, i);
        }
        Checks.rules(x, 0, "pay " + pay + ";");
        return x;
    }

    // ---- promise 23

    /** "NONE: there is none such". */
    private static void fitOfNoneSuch() {
        for (int officer : Edges.beside(0, 2)) {
            e.refused("fit(" + officer + ", 9999)", TOWN, -1, x -> x.fit(officer, 9999));
        }
        e.refused("new: fit(0, 9999)", NEW, -1, x -> x.fit(0, 9999));
        VillagePay x = of(10, 50, 50);
        c.is("the first of ten", x.fit(0, 0), 1);
        c.is("the last of ten", x.fit(9, 0), 1);
        c.is("no 11th", x.fit(10, 0), -1);
    }

    /** "NONE: [..] it does not serve now". */
    private static void fitOfOneThatDoesNotServe() {
        e.refused("one that died long ago", TOWN, -1, x -> x.fit(2, 9999));
        VillagePay x = of(2, 50, 50);
        x.days(3);
        c.is("it serves", x.fit(1, 0), 1);
        x.dies(1);
        c.is("it died today", x.fit(1, 0), -1);
        c.is("another one serves", x.fit(0, 0), 1);
    }

    /** "FIT of an OFFICER for a number e, 0 .. 9999"; "NONE: [..] another e". */
    private static void fitForEFrom0To9999() {
        for (int n : Edges.beside(0, 9999)) {
            e.refused("fit(0, " + n + ")", TOWN, -1, x -> x.fit(0, n));
        }
        VillagePay x = of(1, 50, 50);
        c.is("fit(0, 0)", x.fit(0, 0), 1);
        c.is("fit(0, 9999)", x.fit(0, 9999), 1);
        c.is("fit(0, 10000)", x.fit(0, 10000), -1);
        c.is("fit(0, -1)", x.fit(0, -1), -1);
    }

    /** "whose PAPER together is DUE for a year of now, at most e apart". */
    private static void fitAtMostEApart() {
        VillagePay above = of(1, 100, 107);
        c.is("7 above, e 6", above.fit(0, 6), -1);
        c.is("7 above, e 7", above.fit(0, 7), 1);
        c.is("7 above, e 8", above.fit(0, 8), 1);
        VillagePay below = of(1, 100, 93);
        c.is("7 below, e 6", below.fit(0, 6), -1);
        c.is("7 below, e 7", below.fit(0, 7), 1);
        VillagePay far = of(1, 0, 9999);
        c.is("9999 above, e 9999", far.fit(0, 9999), 1);
        c.is("9999 above, e 9998", far.fit(0, 9998), -1);
        VillagePay farther = new VillagePay();
        farther.village(1, 0, 0);
        farther.officer(0, 0);
        Checks.rules(farther, 0, "pay 9999;pay 1;");
        c.is("9999 below, e 9999", farther.fit(0, 9999), 1);
        farther.days(1);
        Checks.rules(farther, 1, "pay 9999;pay 2;");
        c.is("10000 below", farther.fit(0, 9999), -1);
        VillagePay months = new VillagePay();
        months.village(50, 0, 0);
        months.officer(0, 0);
        Checks.rules(months, 0, "pay 101;months 6;");
        c.is("DUE for a year is 50, cut", months.fit(0, 0), 1);
    }

    /** "NONE: [..] there is no such set (none of no VILLAGE)". */
    private static void fitOfNoVillageIsNone() {
        VillagePay x = new VillagePay();
        x.officer(0, 0);
        c.is("no village at all, nothing due", x.fit(0, 0), -1);
        c.is("no village at all, any e", x.fit(0, 9999), -1);
        x.village(1, 0, 0);
        c.is("nothing due, and a village of 1", x.fit(0, 0), -1);
        c.is("nothing due, a village of 1, e 1", x.fit(0, 1), 1);
        x.give(0, 0, 0);
        c.is("none left", x.fit(0, 9999), -1);
        VillagePay y = of(1, 3, 9);
        c.is("nothing would be nearer, but it is none", y.fit(0, 6), 1);
    }

    /** "the one the least apart". */
    private static void fitOfTheLeastApart() {
        VillagePay x = of(1, 100, 90, 9, 102, 98, 1);
        c.is("90, 9 and 1", x.fit(0, 50), 19);
        x.give(4, 0, 0);
        c.is("90 and 9: 1 apart", x.fit(0, 50), 3);
        x.give(1, 0, 0);
        c.is("102 is as far as 98: the least bits", x.fit(0, 50), 4);
        x.give(2, 0, 0);
        c.is("98", x.fit(0, 50), 8);
        x.give(3, 0, 0);
        c.is("90", x.fit(0, 50), 1);
    }

    /** "of several with the least NEAR". */
    private static void fitOfSeveralByNear() {
        VillagePay x = new VillagePay();
        x.village(50, 0, 0);
        x.village(50, 50, 50);
        x.village(50, 25, 26);
        x.officer(0, 0);
        Checks.rules(x, 0, "pay 100;");
        c.is("1 and 2 are 49 apart, 0 and 2 are 51", x.fit(0, 0), 6);
        x.village(100, 50, 0);
        c.is("one alone is nearest", x.fit(0, 0), 8);
        x.village(99, 0, 0);
        c.is("a set less apart goes ahead of a nearer one", x.fit(0, 1), 8);
    }

    /** "then the least bits". */
    private static void fitOfSeveralByBits() {
        VillagePay x = of(1, 100, 50, 50, 50, 100, 100);
        c.is("0 and 1: all stand in one place", x.fit(0, 0), 3);
        VillagePay y = of(1, 100, 100, 50, 50);
        c.is("0 alone", y.fit(0, 0), 1);
    }

    /** "of all sets of VILLAGES that THE CROWN holds now". */
    private static void fitOfWhatTheCrownHoldsNow() {
        VillagePay x = of(2, 100, 100, 100);
        x.give(0, 1, 1);
        c.is("given from tomorrow on", x.fit(0, 0), 1);
        x.days(1);
        c.is("held", x.fit(0, 0), 2);
        x.dies(1);
        c.is("its holder died", x.fit(0, 0), 1);
        x.give(0, -1, 1);
        c.is("THE CROWN's by an order", x.fit(0, 0), 1);
    }

    /** "none of which one of its KIN (itself, too) ever held by any ORDER (as written up to now)". */
    private static void fitOfWhatNoKinHeld() {
        VillagePay x = new VillagePay();
        for (int v = 0; v < 4; v++) {
            x.village(100, 0, 0);
        }
        x.officer(0, 0);
        x.officer(0, 0);
        x.officer(0, 9);
        Checks.rules(x, 0, "pay 100;");
        x.days(5);
        x.give(0, 0, 0);
        x.give(0, -1, 3);
        c.is("itself, up to some days ago", x.fit(0, 0), 2);
        c.is("its kin", x.fit(1, 0), 2);
        c.is("another kin", x.fit(2, 0), 1);
        x.give(1, 1, 1199);
        c.is("its kin, from the last of all days on", x.fit(0, 0), 4);
        c.is("itself, from the last of all days on", x.fit(1, 0), 4);
        x.give(2, -1, 0);
        c.is("THE CROWN has no kin", x.fit(0, 0), 4);
        x.raise(1, 2, 0);
        x.raise(1, 3, 0);
        c.is("an order for a rank is none of a village", x.fit(0, 0), 4);
        x.give(2, 2, 1000);
        c.is("of another kin", x.fit(0, 0), 4);
        c.is("of the other's own", x.fit(2, 0), 1);
        x.dies(1);
        c.is("dead kin", x.fit(0, 0), 4);
    }

    /** "of all sets of VILLAGES": of twelve, the set of all. */
    private static void fitOfTwelve() {
        VillagePay x = of(2, 78, 1, 2, 3, 4, 5, 6, 7, 8, 9, 10, 11, 12);
        c.is("all twelve", x.fit(0, 0), 4095);
        x.give(0, 1, 0);
        c.is("all but the first", x.fit(0, 1), 4094);
        x.give(11, 1, 0);
        c.is("all but two", x.fit(0, 13), 2046);
        VillagePay y = of(1, 12, 1, 1, 1, 1, 1, 1, 1, 1, 1, 1, 1, 12);
        c.is("the last alone, behind all others", y.fit(0, 0), 2048);
        VillagePay most = new VillagePay();
        for (int i = 0; i < 12; i++) {
            most.village(9999, 50 * (i % 2), 50 * (i / 2 % 2));
        }
        most.officer(0, 0);
        Checks.rules(most, 0, "pay 9999;".repeat(12));
        c.is("the most of all", most.fit(0, 0), 4095);
    }

    // ---- promise 24

    /** "NEAR of a set of VILLAGES (bits; those that are none count for nothing)". */
    private static void nearOfAnyBits() {
        for (int bits : new int[] {-1, Edges.MOST, 7, 15, 4103, 7 | Edges.LEAST}) {
            e.refused("near(" + bits + "), which is no order,", TOWN, 7 + 93 + 100, x -> x.near(bits));
        }
        for (int bits : new int[] {0, Edges.LEAST, 8, 4096, ~7, 1 << 30}) {
            e.answers("near(" + bits + ")", TOWN, 0, x -> x.near(bits));
            e.answers("new: near(" + bits + ")", NEW, 0, x -> x.near(bits));
        }
        e.answers("new: near(-1)", NEW, 0, x -> x.near(-1));
    }

    /** "of each two how far their x and their y are apart, together". */
    private static void nearOfNoneOneAndAll() {
        for (int bit = 1; bit <= 4; bit <<= 1) {
            int bits = bit;
            e.answers("one alone, " + bits, TOWN, 0, x -> x.near(bits));
        }
        e.answers("0 and 1", TOWN, 7, x -> x.near(3));
        e.answers("0 and 2", TOWN, 100, x -> x.near(5));
        e.answers("1 and 2", TOWN, 93, x -> x.near(6));
        VillagePay x = new VillagePay();
        x.village(1, 5, 5);
        x.village(2, 5, 5);
        c.is("two in one place", x.near(3), 0);
    }

    /** The most that twelve can be apart: six in one corner, six in the other. */
    private static void nearFromEndToEnd() {
        VillagePay x = new VillagePay();
        for (int i = 0; i < 12; i++) {
            x.village(1, i < 6 ? 0 : 50, i < 6 ? 50 : 0);
        }
        c.is("six and six", x.near(4095), 36 * 100);
        c.is("and those that are none", x.near(-1), 36 * 100);
        c.is("the first and the last", x.near(1 | 1 << 11), 100);
        c.is("a 13th is none", x.near(1 | 1 << 12), 0);
    }

    // ---- promise 25

    /** "NONE: there is [..] none". */
    private static void dealOfNone() {
        for (boolean best : new boolean[] {false, true}) {
            e.refused("deal(0)", TOWN, -1, x -> x.deal(0, best));
            e.refused("new: deal(0)", NEW, -1, x -> x.deal(0, best));
            e.answers("new: deal(1)", NEW, -1, x -> x.deal(1, best));
        }
    }

    /** "DEAL of some OFFICERS (bits, at most 3)"; "NONE: [..] more than 3". */
    private static void dealOfOneToThree() {
        for (boolean best : new boolean[] {false, true}) {
            VillagePay x = of(10, 100, 30);
            c.is("one", x.deal(1, best), 70);
            c.is("the last one", x.deal(512, best), 70);
            c.is("two", x.deal(3, best), 170);
            c.is("three", x.deal(7, best), 270);
            c.is("the last three", x.deal(896, best), 270);
            c.is("four", x.deal(15, best), -1);
            c.is("the last four", x.deal(960, best), -1);
            c.is("all ten", x.deal(1023, best), -1);
        }
    }

    /** "NONE: there is one that does not serve now". */
    private static void dealOfOneThatDoesNotServe() {
        for (boolean best : new boolean[] {false, true}) {
            e.refused("one that is dead", TOWN, -1, x -> x.deal(4, best));
            e.refused("one that is dead, with others", TOWN, -1, x -> x.deal(7, best));
            VillagePay x = of(3, 100, 30);
            x.days(1);
            c.is("all serve", x.deal(7, best), 270);
            x.dies(2);
            c.is("one died today", x.deal(7, best), -1);
            c.is("alone", x.deal(4, best), -1);
            c.is("the others", x.deal(3, best), 170);
        }
    }

    /** The same sentence: a bit that is no officer's is one that does not serve. */
    private static void dealOfBitsThatAreNoOfficers() {
        for (boolean best : new boolean[] {false, true}) {
            for (int bits : new int[] {8, 9, 512, 1024, 1025, 1 << 30, Edges.LEAST, Edges.LEAST | 1, -1, Edges.MOST}) {
                e.refused("deal(" + bits + ")", x -> {
                    x.village(5, 0, 0);
                    x.officer(0, 0);
                    x.officer(0, 0);
                    x.officer(0, 0);
                }, -1, x -> x.deal(bits, best));
            }
            VillagePay x = of(10, 5, 5);
            c.is("an 11th", x.deal(1024, best), -1);
            c.is("a bit beside the first", x.deal(1 | Edges.LEAST, best), -1);
        }
    }

    /** No village is THE CROWN's: GAP is all that is due. */
    private static void dealOfNoVillage() {
        for (boolean best : new boolean[] {false, true}) {
            VillagePay x = of(3, 100);
            c.is("no village at all", x.deal(7, best), 300);
            c.is("none gets it", x.dealt(7, best, 0), -1);
            VillagePay y = of(2, 100, 100);
            y.give(0, 0, 0);
            c.is("the only one is held", y.deal(3, best), 200);
            y.give(0, -1, 0);
            c.is("and is THE CROWN's again", y.deal(3, best), 100);
        }
    }

    private static void gives(VillagePay x, int officers, boolean best, int gap, int... row) {
        String name = best ? "best" : "by rule";
        c.is(name + " gap", x.deal(officers, best), gap);
        for (int v = 0; v < row.length; v++) {
            c.is(name + " of village " + v, x.dealt(officers, best, v), row[v]);
        }
    }

    /** "(at most 7 of these, by numbers)". */
    private static void dealOfSevenVillages() {
        for (boolean best : new boolean[] {false, true}) {
            gives(of(1, 7, 1, 1, 1, 1, 1, 1, 1), 1, best, 0, 0, 0, 0, 0, 0, 0, 0);
            gives(of(1, 8, 1, 1, 1, 1, 1, 1, 1, 1), 1, best, 1, 0, 0, 0, 0, 0, 0, 0, -1);
            VillagePay x = of(2, 8, 1, 1, 1, 1, 1, 1, 1, 1, 8);
            gives(x, 1, best, 1, 0, 0, 0, 0, 0, 0, 0, -1, -1);
            x.give(0, 1, 0);
            gives(x, 1, best, 1, -1, 0, 0, 0, 0, 0, 0, 0, -1);
            x.give(3, 1, 0);
            // the one of 8 is the seventh now
            gives(x, 1, best, 0, -1, -1, -1, -1, -1, -1, -1, -1, 0);
            VillagePay twelve = of(1, 12, 1, 1, 1, 1, 1, 1, 1, 1, 1, 1, 1, 1);
            gives(twelve, 1, best, 5, 0, 0, 0, 0, 0, 0, 0, -1, -1, -1, -1, -1);
        }
    }

    /** "each to the OFFICER that lacks most then [..], if it lacks half of that PAPER or more; else to none". */
    private static void dealByHalfThePaper() {
        gives(of(1, 10, 20), 1, false, 10, 0);
        gives(of(1, 10, 19), 1, false, 9, 0);
        gives(of(1, 10, 21), 1, false, 10, -1);
        gives(of(1, 9, 19), 1, false, 9, -1);
        gives(of(1, 0, 1), 1, false, 0, -1);
        gives(of(1, 1, 1), 1, false, 0, 0);
        gives(of(1, 1, 2), 1, false, 1, 0);
        gives(of(1, 1, 3), 1, false, 1, -1);
        // 20 is 10 too many: nothing lacks then, and no other village goes to it
        gives(of(1, 10, 20, 1), 1, false, 10, 0, -1);
        // 10 of 10: lacks 0, which is not half of 1
        gives(of(1, 10, 10, 1), 1, false, 0, 0, -1);
        gives(of(1, 9999, 9999, 9999), 1, false, 0, 0, -1);
    }

    /** "VILLAGES with the greatest PAPER first, of several the least number, [..] (of several the least)". */
    private static void dealByRuleOfSeveral() {
        gives(of(2, 10, 10, 10), 3, false, 0, 0, 1);
        gives(of(2, 10, 10, 10, 10), 3, false, 0, 0, 1, -1);
        gives(of(1, 10, 10, 10), 1, false, 0, 0, -1);
        gives(of(3, 10, 4, 4, 4), 7, false, 18, 0, 1, 2);
        gives(of(3, 10, 4, 4, 4), 6, false, 8, 1, 2, 1);
        gives(of(2, 10, 3, 9), 3, false, 8, 1, 0);
    }

    /** "BEST: [..] with the least GAP; of several the least row (VILLAGE by VILLAGE; the OFFICER's number; 10 for none)". */
    private static void dealBestOfSeveral() {
        gives(of(1, 10, 20), 1, true, 10, 0);
        gives(of(1, 10, 21), 1, true, 10, -1);
        gives(of(1, 0, 1), 1, true, 0, -1);
        gives(of(2, 10, 20), 3, true, 20, 0);
        gives(of(2, 10, 10), 3, true, 10, 0);
        gives(of(3, 10, 10), 6, true, 10, 1);
        gives(of(2, 10, 10, 10, 10), 3, true, 0, 0, 1, -1);
        gives(of(2, 10, 5, 5, 5, 5), 3, true, 0, 0, 0, 1, 1);
        gives(of(3, 6, 2, 4, 6, 6), 7, true, 0, 0, 0, 1, 2);
        gives(of(1, 30, 20, 20), 1, true, 10, 0, 0);
    }

    /** The most officers and villages of the greatest numbers, among which the last way of all is the best. */
    private static void dealBestOfTheMost() {
        VillagePay none = of(3, 0, 9999, 9999, 9999, 9999, 9999, 9999, 9999);
        gives(none, 7, true, 0, -1, -1, -1, -1, -1, -1, -1);
        VillagePay x = of(10, 9999, 9999, 9999, 9999, 9999, 9999, 9999, 9999);
        gives(x, 896, true, 0, 7, 8, 9, -1, -1, -1, -1);
        VillagePay most = new VillagePay();
        for (int i = 0; i < 3; i++) {
            most.officer(0, 0);
        }
        Checks.rules(most, 0, "pay 9999;".repeat(16));
        c.is("the greatest gap", most.deal(7, true), 3 * 159984);
        c.is("the greatest gap by rule", most.deal(7, false), 3 * 159984);
    }

    /** "GAP BY RULE, or (best) of BEST": each is reckoned anew, whatever was asked ahead of it. */
    private static void dealsOneAfterTheOther() {
        VillagePay x = of(4, 10, 3, 9, 7, 1, 10);
        for (int i = 0; i < 3; i++) {
            gives(x, 3, false, 0, -1, 1, -1, 1, 0);
            gives(x, 3, true, 0, 0, 1, 0, 1, -1);
            gives(x, 8, false, 0, -1, -1, -1, -1, 3);
            gives(x, 7, true, 0, 0, 1, 0, 1, 2);
            gives(x, 7, false, 0, 2, 1, 2, 1, 0);
            gives(x, 4, true, 0, 2, -1, 2, -1, -1);
        }
    }

    // ---- promise 26

    /** "NONE: [..] it is none of those that are dealt": no village at all. */
    private static void dealtOfNoSuchVillage() {
        for (boolean best : new boolean[] {false, true}) {
            for (int village : new int[] {Edges.LEAST, -1, 3, 7, 12, Edges.MOST}) {
                e.refused("dealt(3, " + village + ")", TOWN, -1, x -> x.dealt(3, best, village));
            }
            e.answers("new: dealt(1, 0)", NEW, -1, x -> x.dealt(1, best, 0));
            VillagePay x = of(1, 2, 1, 1);
            c.is("the first", x.dealt(1, best, 0), 0);
            c.is("the last", x.dealt(1, best, 1), 0);
            c.is("behind the last", x.dealt(1, best, 2), -1);
        }
    }

    /** "NONE: none of them; it is none of those that are dealt": held, an eighth, or left over. */
    private static void dealtOfOneThatIsNotDealt() {
        for (boolean best : new boolean[] {false, true}) {
            VillagePay x = of(2, 10, 10, 10, 100);
            c.is("dealt", x.dealt(1, best, 0), 0);
            c.is("left over", x.dealt(1, best, 1), -1);
            c.is("too great", x.dealt(1, best, 2), -1);
            x.give(0, 1, 0);
            c.is("held", x.dealt(1, best, 0), -1);
            c.is("held by one of them", x.dealt(2, best, 0), -1);
            c.is("the next one then", x.dealt(1, best, 1), 0);
            VillagePay y = of(1, 9999, 1, 1, 1, 1, 1, 1, 1, 1);
            c.is("the seventh", y.dealt(1, best, 6), 0);
            c.is("the eighth", y.dealt(1, best, 7), -1);
        }
    }

    /** "NONE: [..] as deal()": none, more than 3, one that does not serve. */
    private static void dealtAsDeal() {
        for (boolean best : new boolean[] {false, true}) {
            VillagePay x = of(4, 10, 10);
            c.is("three", x.dealt(7, best, 0), 0);
            for (int bits : new int[] {0, 15, 16, 17, 1025, -1, Edges.LEAST, Edges.LEAST | 1, Edges.MOST}) {
                c.is("dealt(" + bits + ")", x.dealt(bits, best, 0), -1);
            }
            x.dies(0);
            c.is("one that is dead", x.dealt(1, best, 0), -1);
            c.is("one that is dead, with others", x.dealt(7, best, 0), -1);
            c.is("the others", x.dealt(6, best, 0), 1);
            e.refused("dealt of the dead", TOWN, -1, y -> y.dealt(4, best, 2));
        }
    }

    // ---- promise 27

    private static void crowd(VillagePay x) {
        for (int v = 0; v < 12; v++) {
            x.village(10, 0, 0);
        }
        for (int o = 0; o < 10; o++) {
            x.officer(0, 0);
        }
    }

    /** "MOVES, at most 12: [..] each VILLAGE and each OFFICER but once": ten officers can have ten. */
    private static void movesOfAllOfficers() {
        VillagePay x = Edges.led(DealEdgesTest::crowd);
        for (int o = 0; o < 10; o++) {
            c.is("move of " + o, x.move(o, 11 - o), o);
            c.is("so many", x.count(6), o + 1);
        }
        Edges.Life all = y -> {
            crowd(y);
            for (int o = 0; o < 10; o++) {
                y.move(o, 11 - o);
            }
        };
        for (int o = 0; o < 10; o++) {
            int officer = o;
            e.answers("no other for " + o, all, -1, y -> y.move(officer, 0));
        }
        e.refused("an 11th, of an officer that has one", all, -1, y -> y.move(9, 0));
        e.answers("the row has all ten", all, 9, y -> y.moved(9));
        e.answers("and no more", all, -1, y -> y.moved(10));
    }

    /** "NONE: [..] there are no such two". */
    private static void moveOfNoSuchTwo() {
        for (int officer : Edges.beside(0, 2)) {
            e.refused("move(" + officer + ", 0)", TOWN, -1, x -> x.move(officer, 0));
        }
        for (int village : Edges.beside(0, 2)) {
            e.refused("move(1, " + village + ")", TOWN, -1, x -> x.move(1, village));
        }
        e.refused("new: move(0, 0)", NEW, -1, x -> x.move(0, 0));
        e.refused("no officer", x -> x.village(1, 0, 0), -1, x -> x.move(0, 0));
        e.refused("no village", x -> x.officer(1, 0), -1, x -> x.move(0, 0));
        Edges.Life crowd = DealEdgesTest::crowd;
        e.changes("the last two", crowd, 0, x -> x.move(9, 11));
        e.changes("the first two", crowd, 0, x -> x.move(0, 0));
        e.refused("an 11th officer", crowd, -1, x -> x.move(10, 0));
        e.refused("a 13th village", crowd, -1, x -> x.move(0, 12));
    }

    /** "NONE: [..] one of both has a MOVE". */
    private static void moveOfOneThatHasAMove() {
        e.refused("an officer that has one", TOWN, -1, x -> x.move(0, 2));
        e.refused("a village that has one", TOWN, -1, x -> x.move(1, 1));
        e.refused("both, the same again", TOWN, -1, x -> x.move(0, 1));
        e.changes("two that have none", TOWN, 1, x -> x.move(1, 0));
    }

    /** "NONE: [..] the OFFICER does not serve now". */
    private static void moveOfOneThatDoesNotServe() {
        e.refused("one that died long ago", TOWN, -1, x -> x.move(2, 2));
        Edges.Life today = x -> {
            crowd(x);
            x.dies(3);
        };
        e.refused("one that died today", today, -1, x -> x.move(3, 2));
        e.changes("one that came today", today, 0, x -> x.move(4, 2));
        VillagePay x = Edges.led(DealEdgesTest::crowd);
        x.move(3, 2);
        x.dies(3);
        c.is("its move stays as it dies", x.count(6), 1);
        c.is("no other has its village", x.move(4, 2), -1);
    }

    // ---- promises 28 to 30

    /** "MOVES are forgotten.": none is there, and each can be again. */
    private static void stayForgetsAll() {
        e.refused("new: stay()", NEW, 0, x -> {
            x.stay();
            return 0;
        });
        VillagePay x = Edges.led(DealEdgesTest::crowd);
        for (int o = 0; o < 10; o++) {
            x.move(o, o);
        }
        x.stay();
        c.is("none is there", x.count(6), 0);
        c.is("no row", x.moved(0), -1);
        c.is("none idle", x.idle(), 0);
        x.stay();
        c.is("twice", x.count(6), 0);
        for (int o = 0; o < 10; o++) {
            c.is("again " + o, x.move(o, o + 2), o);
        }
    }

    /** "How many OFFICERS are IDLE by ROW of MOVES": none without moves, or if all can be done. */
    private static void idleWithoutMoves() {
        e.refused("new: idle()", NEW, 0, x -> x.idle());
        VillagePay x = Edges.led(DealEdgesTest::crowd);
        x.give(0, 0, 0);
        c.is("held, but no move", x.idle(), 0);
        x.move(0, 0);
        c.is("to its own village", x.idle(), 0);
        x.move(1, 1);
        c.is("to one of THE CROWN's", x.idle(), 0);
    }

    /** "the holder of the VILLAGE of the first one left (by its number) loses all to THE CROWN, and is IDLE once". */
    private static void idleOfCircles() {
        VillagePay x = Edges.led(DealEdgesTest::crowd);
        for (int o = 0; o < 10; o++) {
            x.give(o, o, 0);
        }
        for (int o = 0; o < 10; o++) {
            x.move(o, o ^ 1);
        }
        c.is("five circles of two", x.idle(), 5);
        for (int place = 0; place < 10; place++) {
            c.is("moved(" + place + ")", x.moved(place), place);
        }
        x.stay();
        for (int o = 0; o < 10; o++) {
            x.move(o, (o + 1) % 10);
        }
        c.is("one circle of ten", x.idle(), 1);
        c.is("the first goes first", x.moved(0), 0);
        for (int place = 1; place < 10; place++) {
            c.is("then the last, and so on: " + place, x.moved(place), 10 - place);
        }
        x.stay();
        x.move(9, 0);
        c.is("one whose holder has no move is idle", x.idle(), 1);
    }

    /** The same sentence, for one that holds several: "each as often as it is". */
    private static void idleLosesAll() {
        VillagePay x = Edges.led(DealEdgesTest::crowd);
        for (int v = 0; v < 12; v++) {
            x.give(v, 9, 0);
        }
        for (int o = 0; o < 9; o++) {
            x.move(o, o);
        }
        c.is("it loses all at once", x.idle(), 1);
        VillagePay y = Edges.led(DealEdgesTest::crowd);
        y.give(0, 1, 0);
        y.give(1, 2, 0);
        y.give(2, 1, 0);
        y.give(3, 2, 0);
        y.move(0, 0);
        y.move(1, 1);
        y.move(2, 2);
        // 1 loses 0 and 2; 0 goes to 0; 2 goes to 2, so 1 is free, and 1 goes there
        c.is("once is enough", y.idle(), 1);
        c.is("moved(0)", y.moved(0), 0);
        c.is("moved(1)", y.moved(1), 2);
        c.is("moved(2)", y.moved(2), 1);
        VillagePay z = Edges.led(DealEdgesTest::crowd);
        z.give(0, 3, 0);
        z.give(1, 4, 0);
        z.move(1, 0);
        z.move(3, 1);
        // 3 is idle for move 0; it has lost 0, and its own move waits for 4, which is idle, too
        c.is("two", z.idle(), 2);
    }

    /** "A MOVE can be done if THE CROWN holds its VILLAGE, or it is held by its own OFFICER"; "the first one [..] again". */
    private static void rowOfMovesThatCanBeDone() {
        VillagePay x = Edges.led(DealEdgesTest::crowd);
        x.give(0, 1, 0);
        x.give(1, 2, 0);
        x.give(5, 5, 0);
        x.move(0, 0);
        x.move(1, 1);
        x.move(2, 2);
        x.move(5, 5);
        x.move(4, 4);
        int[] row = {2, 1, 0, 3, 4};
        for (int place = 0; place < 5; place++) {
            c.is("moved(" + place + ")", x.moved(place), row[place]);
        }
        c.is("none idle", x.idle(), 0);
        VillagePay own = Edges.led(DealEdgesTest::crowd);
        own.give(0, 0, 0);
        own.give(1, 0, 0);
        own.move(1, 1);
        own.move(0, 0);
        c.is("its own first: it frees the other", own.moved(0), 1);
        c.is("none idle", own.idle(), 0);
        VillagePay later = Edges.led(DealEdgesTest::crowd);
        later.give(0, 1, 1);
        later.move(0, 0);
        c.is("an order for tomorrow does not count", later.idle(), 0);
        later.days(1);
        c.is("on its day it does", later.idle(), 1);
        later.dies(1);
        c.is("a dead holder is none", later.idle(), 0);
    }

    /** "The MOVE at a place of ROW, from 0 on. NONE: there is none such." */
    private static void movedOfNoSuchPlace() {
        for (int place : Edges.beside(0, 0)) {
            e.refused("moved(" + place + ")", TOWN, -1, x -> x.moved(place));
        }
        e.answers("moved(0)", TOWN, 0, x -> x.moved(0));
        for (int place : new int[] {Edges.LEAST, -1, 0, 11, 12, Edges.MOST}) {
            e.refused("new: moved(" + place + ")", NEW, -1, x -> x.moved(place));
        }
    }

    /** "(All this is reckoned from what is held now, and changes nothing.)" */
    private static void movesChangeNothing() {
        e.refused("idle(), which is no order,", TOWN, 1, x -> x.idle());
        e.refused("moved(0), which is no order,", TOWN, 0, x -> x.moved(0));
        e.refused("fit, which is no order,", TOWN, -1, x -> x.fit(1, 499));
        e.refused("fit, which is no order,", TOWN, 4, x -> x.fit(1, 500));
        e.refused("deal, which is no order,", TOWN, 1400, x -> x.deal(3, true));
        e.refused("dealt, which is no order,", TOWN, 0, x -> x.dealt(3, true, 2));
    }
}
