/** The edges of promises 36 to 38 and of the 512 calls; each test bears the sentence that it holds the class to. */
public final class WholeEdgesTest {
    private static final Checks c = new Checks("WholeEdgesTest");
    private static final Edges e = new Edges(c);
    private static final Edges.Life NEW = x -> { };
    private static final Edges.Life TOWN = Edges::town;

    public static void main(String[] args) {
        countForAnotherWhat();
        countOfNothing();
        countOfSome();
        countOfTheMost();
        countOfSeasonsThatEnded();
        countOfThoseThatServeNow();
        countOfWhatTheCrownHoldsNow();
        countOfVillagesOver();
        imagesFrom0To2();
        anImageOfANewObject();
        anImageIsAsItIsThen();
        anImageHasTheTapeAndTheFault();
        anImageOfTheMost();
        imagesOfTwoWays();
        againOfNoneSuch();
        againLeavesOtherImages();
        againAndAgain();
        fiveHundredAndTwelveCalls();
        theConstant();
        c.finish();
    }

    // ---- promise 36

    /** "NONE for another what." */
    private static void countForAnotherWhat() {
        for (int what : Edges.beside(0, 10)) {
            e.refused("count(" + what + ")", TOWN, -1, x -> x.count(what));
            e.answers("new: count(" + what + ")", NEW, -1, x -> x.count(what));
        }
    }

    /** "How many": 0 of all at first. */
    private static void countOfNothing() {
        for (int what = 0; what <= 10; what++) {
            int w = what;
            e.answers("new: count(" + w + ")", NEW, 0, x -> x.count(w));
        }
    }

    /** "0 VILLAGES, 1 OFFICERS, 2 ORDERS, 3 REIGNS, 4 the DAY, 5 SEASONS that ended, 6 MOVES, 7 WORDS, [..]". */
    private static void countOfSome() {
        int[] want = {3, 3, 4, 1, 130, 2, 1, 4, 2, 1, 1};
        for (int what = 0; what <= 10; what++) {
            int w = what;
            e.answers("count(" + w + ")", TOWN, want[w], x -> x.count(w));
        }
    }

    /** Twelve, ten, a hundred orders, four reigns, the last day, ten moves, a hundred words. */
    private static void full(VillagePay x) {
        for (int v = 0; v < 12; v++) {
            x.village(10 + v, v, v);
            x.squeeze(v, 51 + v);
        }
        for (int o = 0; o < 10; o++) {
            x.officer(o, o);
        }
        for (int i = 0; i < 50; i++) {
            x.give(i % 12, i % 10, 7 * i);
            x.raise(i % 10, i % 7, 9 * i);
        }
        for (int i = 0; i < 47; i++) {
            x.say(i % 5, i % 12, i % 20, i);
        }
        for (int r = 0; r < 4; r++) {
            Checks.rules(x, r, "take 50;");
        }
        for (int o = 0; o < 10; o++) {
            x.move(o, o + 1);
        }
        Edges.goTo(x, 1199);
    }

    /** The same, where there is no room left. */
    private static void countOfTheMost() {
        VillagePay x = Edges.led(WholeEdgesTest::full);
        for (int i = 47; i < 100; i++) {
            c.is("word " + i, x.say(0, 0, 0, i), i);
        }
        int[] want = {12, 10, 100, 4, 1199, 19, 10, 100, 10, 0, 12};
        for (int what = 0; what <= 10; what++) {
            c.is("of the most, count(" + what + ")", x.count(what), want[what]);
        }
        c.is("no village more", x.village(1, 0, 0), -1);
        c.is("no officer more", x.officer(0, 0), -1);
        c.is("no order more", x.give(0, 0, 0), -1);
        c.is("no rank more", x.raise(0, 0, 0), -1);
        c.is("no reign more", x.reign(1199), -2);
        c.is("no day more", x.days(1), -1);
        c.is("no move more", x.move(0, 11), -1);
        c.is("no word more", x.say(0, 0, 0, 0), -1);
        for (int what = 0; what <= 10; what++) {
            c.is("still, count(" + what + ")", x.count(what), want[what]);
        }
    }

    /** "5 SEASONS that ended". */
    private static void countOfSeasonsThatEnded() {
        VillagePay x = new VillagePay();
        for (int s = 0; s < 19; s++) {
            x.days(59);
            c.is("on the last day of " + s, x.count(5), s);
            x.days(1);
            c.is("on the day behind it", x.count(5), s + 1);
        }
        x.days(59);
        c.is("on the last day of all", x.count(5), 19);
        c.is("which is", x.count(4), 1199);
    }

    /** "8 OFFICERS that serve now". */
    private static void countOfThoseThatServeNow() {
        VillagePay x = new VillagePay();
        for (int o = 0; o < 10; o++) {
            x.officer(0, 0);
            c.is("came today", x.count(8), o + 1);
        }
        x.days(1);
        for (int o = 9; o >= 0; o--) {
            x.dies(o);
            c.is("died today", x.count(8), o);
        }
        c.is("all are counted still", x.count(1), 10);
    }

    /** "9 VILLAGES that THE CROWN holds now". */
    private static void countOfWhatTheCrownHoldsNow() {
        VillagePay x = new VillagePay();
        x.officer(0, 0);
        x.officer(0, 0);
        for (int v = 0; v < 12; v++) {
            x.village(5, 0, 0);
            c.is("none is held", x.count(9), v + 1);
        }
        for (int v = 0; v < 12; v++) {
            x.give(v, v % 2, v / 6);
        }
        c.is("six are held from today on", x.count(9), 6);
        x.days(1);
        c.is("all are held", x.count(9), 0);
        x.dies(1);
        c.is("one of two died", x.count(9), 6);
        x.give(0, -1, 2);
        c.is("an order for tomorrow", x.count(9), 6);
        x.give(0, -1, 1);
        c.is("an order for today", x.count(9), 7);
    }

    /** "10 VILLAGES OVER". */
    private static void countOfVillagesOver() {
        VillagePay x = new VillagePay();
        x.officer(0, 0);
        x.officer(9, 0);
        for (int v = 0; v < 12; v++) {
            x.village(5, 0, 0);
            x.squeeze(v, 100 + v);
            x.give(v, v % 2, 0);
        }
        c.is("without rules", x.count(10), 0);
        Checks.rules(x, 0, "take 105;");
        c.is("106 to 111", x.count(10), 6);
        x.days(1);
        Checks.rules(x, 1, "take 99;");
        c.is("all of them", x.count(10), 12);
        x.days(1);
        Checks.rules(x, 2, "take 99;if rank=9:take 111;");
        c.is("those of one officer", x.count(10), 6);
        x.days(1);
        Checks.rules(x, 3, "take 111;");
        c.is("none of them", x.count(10), 0);
    }

    // ---- promise 37

    /** "Image k (0 .. 2) [..]: true; false for another k." */
    private static void imagesFrom0To2() {
        for (int k : Edges.beside(0, 2)) {
            e.refused("image(" + k + ")", TOWN, 0, x -> Edges.bit(x.image(k)));
            e.refused("new: image(" + k + ")", NEW, 0, x -> Edges.bit(x.image(k)));
        }
        for (int k = 0; k < 3; k++) {
            int number = k;
            e.changes("image(" + k + ")", TOWN, 1, x -> Edges.bit(x.image(number)));
            VillagePay x = new VillagePay();
            c.yes("image(" + k + ")", x.image(k));
            for (int other = 0; other < 3; other++) {
                c.is("image " + k + " is made, again(" + other + ")", x.again(other), other == k);
            }
        }
    }

    /** "all that is told [..], as it is now": of nothing at all. */
    private static void anImageOfANewObject() {
        Edges.Life back = x -> {
            x.image(2);
            Edges.town(x);
            x.again(2);
        };
        VillagePay x = Edges.led(back);
        for (int what = 0; what <= 10; what++) {
            c.is("count(" + what + ")", x.count(what), 0);
        }
        c.is("no fault", x.fault(0), 0);
        c.is("no place", x.fault(1), -1);
        c.is("no tape", x.end(1), -1);
        c.is("no village", x.about(0, 0), -2);
        c.is("the weather is 100 again", x.tried(1000, 20, 20, 100, 0), 10000);
        // the life that town led is the same behind an image of nothing
        Look once = new Look(y -> {
            y.image(0);
            y.image(2);
            Edges.town(y);
        });
        Look twice = new Look(y -> {
            y.image(0);
            y.image(2);
            Edges.town(y);
            y.image(1);
            y.again(2);
            Edges.town(y);
        });
        c.is("led again, all is alike, but " + twice.firstUnlike(once), twice.isLike(once), true);
    }

    /** "as it is now": not as it is later, and a later image k takes its place. */
    private static void anImageIsAsItIsThen() {
        VillagePay x = Edges.led(TOWN);
        x.image(0);
        x.village(7, 7, 7);
        x.squeeze(0, 99);
        x.weather(5, 5);
        x.days(60);
        x.again(0);
        c.is("villages", x.count(0), 3);
        c.is("squeeze", x.about(0, 4), 100);
        c.is("the day", x.count(4), 130);
        c.is("no come of the season that goes on", x.come(0, 2), -1);
        c.is("weather", x.tried(1000, 6, 20, 100, 0), 250 + 500 + 500 + 500 + 850 + 500);
        x.village(8, 8, 8);
        x.image(0);
        x.village(9, 9, 9);
        x.again(0);
        c.is("the later image", x.count(0), 4);
    }

    /** "(the tape, the FAULT, too)". */
    private static void anImageHasTheTapeAndTheFault() {
        for (int length : new int[] {0, 1, 480, 500}) {
            VillagePay x = new VillagePay();
            Checks.rules(x, 0, "take 1;");
            Checks.tape(x, " ".repeat(length));
            x.image(1);
            x.end(0);
            x.reign(3);
            c.is("no fault now", x.fault(0), 0);
            x.again(1);
            c.is("the fault", x.fault(0), 2);
            c.is("its place", x.fault(1), 5);
            c.is("the tape's length", x.end(length), length);
            c.is("and no more", x.end(length + 1), -1);
            c.is("no reign", x.count(3), 0);
            c.is("the tape's text", x.reign(0), 0);
        }
        VillagePay x = new VillagePay();
        x.officer(0, 0);
        Checks.tape(x, "pay 11;");
        x.image(0);
        x.end(0);
        Checks.tape(x, "pay 22;");
        x.again(0);
        x.reign(0);
        c.is("the bytes of then", x.scale(0, 0, 0, 0), 11);
        Checks.tape(x, "pay 33;");
        x.again(0);
        x.reign(0);
        c.is("again", x.scale(0, 0, 0, 0), 11);
    }

    /** An image where there is no room left keeps all of it. */
    private static void anImageOfTheMost() {
        Edges.Life most = x -> {
            for (int v = 0; v < 12; v++) {
                x.village(100 + v, v, v);
            }
            for (int o = 0; o < 10; o++) {
                x.officer(o, o);
            }
            for (int i = 0; i < 100; i++) {
                x.give(i % 12, i % 10, 3 * i);
            }
            for (int i = 0; i < 40; i++) {
                x.say(i % 5, i % 12, i % 20, i);
            }
            for (int r = 0; r < 4; r++) {
                Checks.rules(x, 60 * r, "if rank>" + r + ":pay " + (r + 1) + ";");
            }
            for (int o = 0; o < 10; o++) {
                x.move(o, o + 1);
            }
            x.days(130);
            x.image(0);
        };
        Look then = new Look(most);
        Look back = new Look(x -> {
            most.lead(x);
            x.stay();
            x.dies(9);
            x.say(0, 11, 19, 1);
            x.squeeze(11, 150);
            x.weather(19, 0);
            x.days(60);
            x.again(0);
        });
        c.is("all is as it was, but " + back.firstUnlike(then), back.isLike(then), true);
    }

    /** Two ways to fill the same rooms with other things, up to the last of each row. */
    private static void way(VillagePay x, int way) {
        for (int v = 0; v < 12; v++) {
            x.village(50 + v + 400 * way, (3 * v + way) % 51, (5 * v + 20 * way) % 51);
        }
        for (int o = 0; o < 10; o++) {
            x.days(1 + way);
            x.officer((o + 3 * way) % 10, (2 * o + way) % 10);
        }
        for (int i = 0; i < 50; i++) {
            if (i % 2 == way) {
                x.give((i + way) % 12, (i + 4 * way) % 10, 5 * i + way);
            } else {
                x.raise((i + way) % 10, (i + 5 * way) % 10, 6 * i + way);
            }
            x.say((i + way) % 5, (i + 5 * way) % 12, (i + way) % 3, 20 + i * (1 + way));
            if (i % 10 == 0) {
                x.days(2 + way);
            }
        }
        for (int r = 0; r < 4; r++) {
            String line = way == 0 ? "if not rank=1 and kin<9:pay " : "if rank<8 and not had=0:pay 1";
            String last = way == 0 ? "if kin<9 and rank<9 and had<9 and not served>3:pay 500;" : "less 10;if not famine:crown 30;";
            Checks.rules(x, 50 * r + way, (line + (r + 2) + ";").repeat(way == 0 ? r + 1 : 5 - r) + last);
        }
        for (int o = 0; o < 6; o++) {
            x.move((o + way) % 10, (2 * o + way) % 12);
        }
        x.squeeze(11, 120 + way);
        x.weather(1, 70 + 60 * way);
        x.days(120);
        x.dies(2 + way);
        Checks.rules(x, 1000, way == 0 ? "stop;take 1;" : "pay");
        Checks.tape(x, way == 0 ? "pay 44;" : "stop;pay 5;");
    }

    /** "All that is as image k has it": whatever stood there ahead of it, as if nothing else had ever been. */
    private static void imagesOfTwoWays() {
        Edges.Life oneLast = x -> {
            x.image(0);
            way(x, 1);
            x.image(2);
            x.again(0);
            way(x, 0);
            x.image(1);
        };
        Edges.Life otherLast = x -> {
            x.image(0);
            way(x, 0);
            x.image(1);
            x.again(0);
            way(x, 1);
            x.image(2);
        };
        Look one = new Look(oneLast, 100);
        Look other = new Look(otherLast, 100);
        c.no("the ways differ", one.isLike(other));
        Look backToOne = new Look(x -> {
            otherLast.lead(x);
            x.again(1);
        }, 100);
        Look backToOther = new Look(x -> {
            oneLast.lead(x);
            x.again(2);
        }, 100);
        c.is("back to the one, but " + backToOne.firstUnlike(one), backToOne.isLike(one), true);
        c.is("back to the other, but " + backToOther.firstUnlike(other), backToOther.isLike(other), true);
    }

    // ---- promise 38

    /** "false if there is none such": no such number, or none was made. */
    private static void againOfNoneSuch() {
        for (int k : Edges.beside(0, 2)) {
            e.refused("again(" + k + ")", TOWN, 0, x -> Edges.bit(x.again(k)));
            e.refused("new: again(" + k + ")", NEW, 0, x -> Edges.bit(x.again(k)));
        }
        for (int k = 0; k < 3; k++) {
            int number = k;
            e.refused("new: again(" + k + ")", NEW, 0, x -> Edges.bit(x.again(number)));
            if (k != 1) {
                e.refused("again(" + k + "), which was not made", TOWN, 0, x -> Edges.bit(x.again(number)));
            }
        }
        e.changes("again(1), which was made", TOWN, 1, x -> Edges.bit(x.again(1)));
        VillagePay x = new VillagePay();
        x.image(3);
        x.image(-1);
        for (int k = 0; k < 3; k++) {
            c.no("a refused image is none", x.again(k));
        }
    }

    /** "(other images stay)": an image made behind image k is there still. */
    private static void againLeavesOtherImages() {
        VillagePay x = new VillagePay();
        x.image(0);
        x.village(1, 0, 0);
        x.image(1);
        x.village(2, 0, 0);
        x.image(2);
        c.yes("again(0)", x.again(0));
        c.is("no village", x.count(0), 0);
        c.yes("again(2), which was made later", x.again(2));
        c.is("two", x.count(0), 2);
        c.yes("again(1)", x.again(1));
        c.is("one", x.count(0), 1);
        x.village(5, 0, 0);
        x.again(2);
        c.is("image 2 has its own second village", x.about(1, 0), 2);
        x.again(0);
        x.image(2);
        x.again(1);
        x.again(2);
        c.is("image 2 is that of image 0 now", x.count(0), 0);
        x.again(1);
        c.is("image 1 stays", x.count(0), 1);
    }

    /** "All that is as image k has it": as often as one likes, and again of the object that is so already. */
    private static void againAndAgain() {
        VillagePay x = Edges.led(TOWN);
        x.image(0);
        for (int i = 0; i < 5; i++) {
            c.yes("again(0)", x.again(0));
            c.is("the day", x.count(4), 130);
            x.days(10 + i);
            x.dies(0);
            c.is("one serves", x.count(8), 1);
        }
        Edges.Life imaged = y -> {
            Edges.town(y);
            y.image(0);
        };
        e.refused("again of what is now", imaged, 1, y -> Edges.bit(y.again(0)));
        e.refused("image of what is now, once more", imaged, 1, y -> Edges.bit(y.image(0)));
    }

    // ---- the whole

    /** "An object is used for at most 512 calls after it has been made": the last of these is answered as the first. */
    private static void fiveHundredAndTwelveCalls() {
        VillagePay x = new VillagePay();
        x.village(1000, 0, 0);
        x.officer(5, 5);
        x.give(0, 0, 0);
        for (int i = 4; i < 500; i++) {
            c.is("call " + i, x.about(0, 5), 0);
        }
        c.is("call 500", x.days(60), 60);
        c.is("call 501", x.had(0, 0, 60), 500);
        c.is("call 502", x.say(0, 0, 0, 500), 0);
        c.is("call 503", x.trust(0, 60), 100);
        c.yes("call 504", x.image(0));
        c.yes("call 505", x.dies(0));
        c.is("call 506", x.about(0, 5), -1);
        c.yes("call 507", x.again(0));
        c.is("call 508", x.about(0, 5), 0);
        c.is("call 509", x.move(0, 0), 0);
        c.is("call 510", x.idle(), 0);
        c.is("call 511", x.give(0, -1, 0), 1);
        c.is("call 512", x.count(9), 1);
    }

    /** "`NONE = -1`: There is none; THE CROWN." */
    private static void theConstant() {
        c.is("NONE", VillagePay.NONE, -1);
    }
}
