/** Promises 36 to 38: counts and images. */
public final class WholeTest {
    private static final Checks c = new Checks("WholeTest");

    public static void main(String[] args) {
        count();
        countsOfNow();
        image();
        anImageHasAll();
        imagesStandApart();
        imagesOfTwoWays();
        imagesKeepRulesAndWords();
        anImageIsWrittenOver();
        c.finish();
    }

    private static void count() {
        VillagePay x = new VillagePay();
        for (int i = 0; i < 5; i++) {
            x.village(10, 0, 0);
        }
        for (int i = 0; i < 4; i++) {
            x.officer(0, 0);
        }
        x.give(0, 0, 0);
        x.give(1, 1, 0);
        x.raise(0, 1, 0);
        x.reign(0);
        x.reign(9);
        x.days(179);
        x.move(0, 0);
        x.say(0, 0, 0, 0);
        x.say(0, 0, 0, 0);
        x.dies(1);
        int[] want = {5, 4, 3, 2, 179, 2, 1, 2, 3, 4, 0};
        for (int what = 0; what < want.length; what++) {
            c.is("count(" + what + ")", x.count(what), want[what]);
        }
        c.is("count(11)", x.count(11), -1);
        c.is("count(-1)", x.count(-1), -1);
        x.days(1);
        c.is("a season more", x.count(5), 3);
    }

    private static void countsOfNow() {
        VillagePay x = new VillagePay();
        for (int i = 0; i < 3; i++) {
            x.village(10, 0, 0);
            x.squeeze(i, 120);
        }
        x.officer(0, 0);
        x.officer(5, 0);
        x.give(0, 0, 0);
        x.give(1, 1, 0);
        c.is("none above 150", x.count(10), 0);
        Checks.rules(x, 5, "if rank<3:take 110;if rank>2:take 120;");
        c.is("no rules yet", x.count(10), 0);
        x.days(5);
        c.is("one of three", x.count(10), 1);
        x.raise(1, 0, 5);
        c.is("two", x.count(10), 2);
        x.give(0, -1, 5);
        c.is("one of THE CROWN is not OVER", x.count(10), 1);
        c.is("count(9)", x.count(9), 2);
        x.give(2, 0, 6);
        c.is("an order for tomorrow", x.count(9), 2);
    }

    private static void image() {
        VillagePay x = new VillagePay();
        c.no("image(-1)", x.image(-1));
        c.no("image(3)", x.image(3));
        c.no("again(-1)", x.again(-1));
        c.no("again(3)", x.again(3));
        c.no("again(0)", x.again(0));
        c.yes("image(2)", x.image(2));
        c.no("again(1)", x.again(1));
        c.yes("again(2)", x.again(2));
        c.yes("again(2), again", x.again(2));
    }

    private static int sum(VillagePay x) {
        int sum = 17;
        for (int what = 0; what <= 10; what++) {
            sum = sum * 31 + x.count(what);
        }
        for (int v = 0; v < 3; v++) {
            for (int what = 0; what <= 6; what++) {
                sum = sum * 31 + x.about(v, what);
            }
            for (int s = 0; s < 5; s++) {
                sum = sum * 31 + x.come(v, s);
                sum = sum * 31 + x.weighed(v, s, x.count(4));
                sum = sum * 31 + x.holder(v, 50 * s, x.count(4));
                sum = sum * 31 + x.holder(v, 50 * s, 12);
            }
        }
        for (int o = 0; o < 3; o++) {
            for (int s = 0; s < 5; s++) {
                sum = sum * 31 + x.had(o, s, x.count(4));
                sum = sum * 31 + x.due(o, s, x.count(4));
                sum = sum * 31 + x.balance(o, s, x.count(4));
                sum = sum * 31 + x.rank(o, 50 * s, x.count(4));
            }
            sum = sum * 31 + x.fit(o, 9999);
            sum = sum * 31 + x.moved(o);
            for (int what = 0; what < 5; what++) {
                sum = sum * 31 + x.order(o, what);
                sum = sum * 31 + x.scale(o, 70, 0, what);
            }
        }
        for (int w = 0; w < 5; w++) {
            sum = sum * 31 + x.trust(w, x.count(4));
            sum = sum * 31 + x.weighed(w % 3, 0, 12);
        }
        for (int o = 3; o < 6; o++) {
            for (int what = 0; what < 5; what++) {
                sum = sum * 31 + x.order(o, what);
            }
        }
        sum = sum * 31 + x.idle();
        sum = sum * 31 + x.near(-1);
        sum = sum * 31 + x.fault(0);
        sum = sum * 31 + x.fault(1);
        return sum * 31 + x.tried(100, 9, 2, 130, 0);
    }

    private static VillagePay fill() {
        VillagePay x = new VillagePay();
        x.village(500, 1, 2);
        x.village(300, 3, 4);
        x.officer(2, 2);
        x.officer(3, 3);
        x.give(0, 0, 0);
        x.raise(0, 4, 90);
        x.weather(4, 90);
        x.squeeze(1, 130);
        Checks.rules(x, 0, "pay 400;if rank>3 and not famine:pay 50;if not had=1:crown 10;take 120;");
        x.say(0, 0, 3, 9);
        x.say(1, 0, 3, 9);
        x.move(1, 0);
        x.days(130);
        Checks.rules(x, 200, "take 4;");
        Checks.tape(x, "pay 5;");
        return x;
    }

    private static void disturb(VillagePay x, int how) {
        switch (how) {
            case 0: x.village(50, 9, 9); break;
            case 1: x.squeeze(0, 140); break;
            case 2: x.weather(2, 0); break;
            case 3: x.days(60); break;
            case 4: x.officer(9, 9); break;
            case 5: x.dies(0); break;
            case 6: x.give(1, 1, 100); break;
            case 7: x.raise(1, 9, 0); break;
            case 8: x.reign(150); break;
            case 9: Checks.rules(x, 150, "!"); break;
            case 10: x.stay(); break;
            case 11: x.move(0, 1); break;
            case 12: x.say(2, 0, 1, 100); break;
            case 13: x.say(0, 0, 3, 900); break;
            default: x.give(0, -1, 0); break;
        }
    }

    private static void anImageHasAll() {
        for (int how = 0; how <= 14; how++) {
            VillagePay x = fill();
            int sum = sum(x);
            x.image(1);
            disturb(x, how);
            c.no("change " + how + " is seen", sum(x) == sum);
            x.again(1);
            c.is("change " + how + " is undone", sum(x), sum);
            c.is("the tape is there, " + how, x.end(7), -1);
            c.is("the tape is there, " + how, x.reign(300), 1);
            c.is("its text, too, " + how, x.scale(1, 300, 0, 0), 5);
        }
    }

    private static void imagesStandApart() {
        VillagePay x = new VillagePay();
        for (int k = 0; k < 3; k++) {
            x.village(10 + k, 0, 0);
            x.image(k);
        }
        x.village(1, 0, 0);
        int[] row = {1, 0, 2, 2, 0, 1};
        for (int k : row) {
            x.again(k);
            c.is("villages of image " + k, x.count(0), k + 1);
            x.village(99, 0, 0);
            c.is("another one", x.about(k + 1, 0), 99);
        }
        x.again(2);
        c.is("its own", x.about(2, 0), 12);
    }

    /** Each way fills the same rooms with other things, so that what an image leaves out is seen. */
    private static void live(VillagePay x, int way) {
        for (int i = 0; i < 3; i++) {
            x.village(300 + 100 * i + 7 * way, 5 + 3 * i * way, 40 - 4 * i * way);
            x.days(1 + 2 * way);
            x.officer(i + 2 * way, 4 * i + way);
            x.squeeze(i, 100 + 9 * i + 10 * way);
        }
        x.weather(0, 60 + 30 * way);
        for (int i = 0; i < 6; i++) {
            x.days(1 + way);
            if (i % 2 == way) {
                x.give((i + way) % 3, (i / 2 + way) % 3, 20 * i + 3 * way);
            } else {
                x.raise((i + way) % 3, (i + 4 * way) % 10, 25 * i + way);
            }
            x.say((i + way) % 5, i % 3, (i + way) % 2, 20 + 70 * i + way);
            x.say((i + way + 1) % 5, i % 3, (i + way) % 2, 15 + 30 * i * way);
        }
        x.move(way, 1);
        x.move(2, 2 - 2 * way);
        Checks.rules(x, 3 + way, way == 0 ? "pay 100;if rank>2 and not had=0:pay 50;if not kin<1:crown 10;take 105;"
            : "if season=0:pay 900;less 7;if famine:months 3;if served<1:pay 70;if not rank=1:crown 33;");
        Checks.rules(x, 60 + way, way == 0 ? "if had>0 and rank<5:pay 33;" : "pay 80;if not kin=5 and had<2:stop;pay 1;");
        x.days(150);
        Checks.rules(x, 90, way == 0 ? "pay 8" : "stop;stop");
        Checks.tape(x, way == 0 ? "pay 444;" : "pay 555;stop;");
    }

    private static void imagesOfTwoWays() {
        VillagePay x = new VillagePay();
        x.image(0);
        live(x, 0);
        int one = sum(x);
        x.image(1);
        x.again(0);
        live(x, 1);
        int other = sum(x);
        x.image(2);
        c.no("the ways differ", one == other);
        int[] row = {1, 2, 1, 0, 2, 0, 1};
        for (int k : row) {
            x.again(k);
            if (k > 0) {
                c.is("image " + k, sum(x), k == 1 ? one : other);
                c.is("the tape of image " + k, x.reign(1000), k);
                c.is("its text", x.scale(0, 1000, 0, 0), k == 1 ? 444 : 555);
            }
        }
    }

    private static void imagesKeepRulesAndWords() {
        VillagePay x = new VillagePay();
        x.village(10, 0, 0);
        x.village(10, 0, 0);
        x.image(0);
        x.officer(3, 4);
        x.say(0, 0, 5, 30);
        Checks.rules(x, 0, "if not rank=9:pay 7;");
        Checks.rules(x, 1, "if rank=3:pay 1;if kin<5:pay 2;if season>0:pay 4;if not had=5:pay 8;if kin=4:pay 16;");
        x.image(1);
        x.again(0);
        x.officer(3, 1);
        x.say(0, 1, 5, 60);
        Checks.rules(x, 0, "if rank=3:pay 7;");
        Checks.rules(x, 1, "if not kin=4:pay 1;if served>0:pay 2;if not rank<9:pay 4;if not rank=3:pay 8;if kin=4:pay 16;");
        x.image(2);
        for (int k = 1; k <= 4; k++) {
            boolean one = k % 2 == 1;
            x.again(one ? 1 : 2);
            c.is("the first reign", x.scale(0, 0, 0, 0), 7);
            c.is("the second reign", x.scale(0, 1, 0, 0), one ? 1 + 2 + 8 + 16 : 1);
            c.is("words of village 0", x.weighed(0, 5, 0), one ? 30 : -1);
            c.is("words of village 1", x.weighed(1, 5, 0), one ? -1 : 60);
        }
    }

    private static void anImageIsWrittenOver() {
        VillagePay x = new VillagePay();
        x.village(10, 0, 0);
        x.days(60);
        x.image(0);
        x.days(60);
        x.squeeze(0, 150);
        x.image(0);
        x.days(60);
        x.again(0);
        c.is("the later one", x.count(4), 120);
        c.is("its squeeze", x.about(0, 4), 150);
        c.is("its come", x.come(0, 1), 5);
        c.is("no come behind it", x.come(0, 2), -1);
    }
}
