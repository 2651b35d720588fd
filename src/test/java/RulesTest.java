/** Promises 16 to 22: the tape, reigns and faults, scales, what is due, balances. */
public final class RulesTest {
    private static final Checks c = new Checks("RulesTest");

    public static void main(String[] args) {
        feed();
        end();
        reign();
        reignTakesTheTapeAlways();
        wrongForms();
        wrongNumbers();
        tooMany();
        theFirstFault();
        fault();
        scale();
        scaleLines();
        scaleTests();
        scaleFamine();
        scaleByReign();
        scaleAsKnown();
        due();
        balance();
        c.finish();
    }

    private static String times(int n, String text) {
        return text.repeat(n);
    }

    private static void feed() {
        VillagePay x = new VillagePay();
        c.is("highest byte first", x.feed(0x73746f70, 0x3b0a7061, 0x79203130, 0x3b206d6f, 0x6e746873), 20);
        c.is("second", x.feed(0x20363b20, 0x20202020, 0x20202020, 0x20202020, 0x20202020), 40);
        c.is("stop; pay 10; months 6;", x.reign(0), 3);
        for (int i = 1; i <= 25; i++) {
            c.is("feed " + i, x.feed(0x20202020, 0x20202020, 0x20202020, 0x20202020, 0x20202020), 20 * i);
        }
        c.is("a 26th", x.feed(0, 0, 0, 0, 0), -1);
        c.is("nothing came", x.end(500), 500);
        c.is("end(481)", x.end(481), 481);
        c.is("one byte too many", x.feed(0, 0, 0, 0, 0), -1);
        c.is("end(480)", x.end(480), 480);
        c.is("just so many", x.feed(0, 0, 0, 0, 0), 500);
        c.is("bytes 0 are no blanks", x.reign(1), -1);
        c.is("their place", x.fault(1), 480);
        c.is("high bytes", x.feed(-1, -1, -1, -1, -1), 20);
        c.is("are no tokens", x.reign(1), -1);
        c.is("their place", x.fault(1), 0);
    }

    private static void end() {
        VillagePay x = new VillagePay();
        c.is("end(0) of an empty tape", x.end(0), 0);
        c.is("end(1) of an empty tape", x.end(1), -1);
        c.is("end(-1)", x.end(-1), -1);
        x.feed(0, 0, 0, 0, 0);
        c.is("end(21)", x.end(21), -1);
        c.is("end(20)", x.end(20), 20);
        c.is("end(3)", x.end(3), 3);
        c.is("end(4)", x.end(4), -1);
        c.is("behind the three", x.feed(0, 0, 0, 0, 0), 23);
    }

    private static void reign() {
        VillagePay x = new VillagePay();
        c.is("an empty text", x.reign(5), 0);
        c.is("the same day", Checks.rules(x, 5, "stop;"), -2);
        c.is("an earlier day", Checks.rules(x, 4, "stop;"), -2);
        c.is("day -1", Checks.rules(x, -1, "stop;"), -2);
        c.is("day 1200", Checks.rules(x, 1200, "stop;"), -2);
        c.is("a later day", Checks.rules(x, 6, "stop;stop ;\n stop\n;"), 3);
        c.is("blanks alone", Checks.rules(x, 7, " \n \n"), 0);
        c.is("the last day", Checks.rules(x, 1199, times(16, "pay 1;")), 16);
        c.is("count(3)", x.count(3), 4);
        VillagePay y = new VillagePay();
        for (int i = 0; i < 4; i++) {
            c.is("reign " + i, y.reign(i), 0);
        }
        c.is("a fifth", y.reign(9), -2);
        c.is("count(3)", y.count(3), 4);
    }

    private static void reignTakesTheTapeAlways() {
        VillagePay x = new VillagePay();
        Checks.rules(x, 5, "pay 1;");
        c.is("the tape behind a good text", x.end(1), -1);
        Checks.rules(x, 6, "pay;");
        c.is("fault", x.fault(0), 1);
        c.is("the tape behind a fault", x.end(1), -1);
        c.is("a wrong day, and a wrong text", Checks.rules(x, 5, "pay;"), -2);
        c.is("fault 0 then", x.fault(0), 0);
        c.is("no place then", x.fault(1), -1);
        c.is("the tape behind a wrong day", x.end(1), -1);
        c.is("count(3)", x.count(3), 1);
        VillagePay y = new VillagePay();
        y.officer(0, 0);
        Checks.rules(y, 0, "if rank=7 and rank=8:pay 5;if rank=7:take 5;");
        Checks.rules(y, 0, "pay 5;");
        c.is("nothing is left of a wrong text", y.scale(0, 0, 0, 0), 5);
    }

    private static void wrong(String text, int fault, int place) {
        VillagePay x = new VillagePay();
        c.is("[" + text + "]", Checks.rules(x, 0, text), -1);
        c.is("[" + text + "] fault", x.fault(0), fault);
        c.is("[" + text + "] place", x.fault(1), place);
        c.is("[" + text + "] reigns", x.count(3), 0);
    }

    private static void right(String text, int lines) {
        VillagePay x = new VillagePay();
        c.is("[" + text + "]", Checks.rules(x, 0, text), lines);
        c.is("[" + text + "] fault", x.fault(0), 0);
    }

    private static void wrongForms() {
        wrong("pay", 1, 3);
        wrong("pay 5  ", 1, 7);
        wrong(";", 1, 0);
        wrong("pay 5;;", 1, 6);
        wrong("pays 5;", 1, 0);
        wrong("pa 5;", 1, 0);
        wrong("p ay 5;", 1, 0);
        wrong("Pay 5;", 1, 0);
        wrong("payX 5;", 1, 3);
        wrong("payz 5;", 1, 0);
        wrong("zpay 5;", 1, 0);
        wrong("pay 12345;", 1, 4);
        wrong("pay 123 45;", 1, 8);
        wrong("pay -5;", 1, 4);
        wrong("pay\t5;", 1, 3);
        wrong("pay\r\n5;", 1, 3);
        wrong("stop 5;", 1, 5);
        wrong("12345", 1, 0);
        wrong("5", 1, 0);
        wrong("if", 1, 2);
        wrong("if:stop;", 1, 2);
        wrong("if famine stop;", 1, 10);
        wrong("if famine and:stop;", 1, 13);
        wrong("if famine,rank=1:stop;", 1, 9);
        wrong("if and famine:stop;", 1, 3);
        wrong("if not:stop;", 1, 6);
        wrong("if not not famine:stop;", 1, 7);
        wrong("if famine=1:stop;", 1, 9);
        wrong("if rank:stop;", 1, 7);
        wrong("if rank 5:stop;", 1, 8);
        wrong("if rank<=5:stop;", 1, 8);
        wrong("if rank<:stop;", 1, 8);
        wrong("if rank<12345:stop;", 1, 8);
        wrong("if rank<1:if rank<1:stop;", 1, 10);
        wrong("if rank<1:;", 1, 10);
        wrong("if pay<1:stop;", 1, 3);
        wrong("if months=1:stop;", 1, 3);
        wrong("rank 1;", 1, 0);
        wrong("famine;", 1, 0);
        wrong("and;", 1, 0);
        wrong("not;", 1, 0);
        wrong("had 1;", 1, 0);
        wrong("stop:", 1, 4);
        wrong("pay 1 pay 1;", 1, 6);
        wrong("payif 1;", 1, 0);
        right("pay5;pay 0005;\nless100;crown\n0;months1;take\n\n150;stop;", 7);
        right("if not famine and not rank<0and served>0000and kin=9999:stop;", 1);
        right("if season=1:pay 9999;if had>3:less 0;", 2);
    }

    private static void wrongNumbers() {
        wrong("months 0;", 2, 7);
        wrong("months 13;", 2, 7);
        wrong("less 101;", 2, 5);
        wrong("crown 101;", 2, 6);
        wrong("take 49;", 2, 5);
        wrong("take 151;", 2, 5);
        wrong("take 0;", 2, 5);
        wrong("pay 1;if kin=1: months  9999;", 2, 24);
        right("months 1;months 12;months 0012;less 0;less 100;crown 0;crown 100;take 50;take 150;pay 0;pay 9999;", 11);
    }

    private static void tooMany() {
        right(times(16, "stop;"), 16);
        wrong(times(17, "stop;"), 3, 80);
        wrong(times(16, "stop;") + "  if famine:stop;", 3, 82);
        wrong(times(100, "stop;"), 3, 80);
        right("if " + times(3, "kin=1 and ") + "kin=1:stop;", 1);
        wrong("if " + times(4, "kin=1 and ") + "kin=1:stop;", 3, 43);
        wrong("if " + times(4, "kin=1 and ") + "not famine:stop;", 3, 43);
        wrong("if " + times(40, "kin=1 and ") + "kin=1:stop;", 3, 43);
        wrong(times(3, "if kin=1 and kin=1 and kin=1 and kin=1:stop;") + "if " + times(4, "kin=1 and ") + "kin=1:stop;", 3,
            3 * 44 + 43);
        right(times(10, "if kin=1 and kin=1 and kin=1 and kin=1:stop;"), 10);
    }

    private static void theFirstFault() {
        wrong("months 13;pay", 1, 13);
        wrong("months 13;take 5;", 2, 7);
        wrong("months 13;" + times(16, "stop;"), 2, 7);
        wrong(times(16, "stop;") + "months 13;", 3, 80);
        wrong(times(17, "stop;") + "X", 1, 85);
        wrong("if " + times(4, "kin=1 and ") + "kin=1:take 5;", 3, 43);
        wrong("take 5;if " + times(4, "kin=1 and ") + "kin=1:take 5;", 2, 5);
        wrong("if " + times(4, "kin=1 and ") + "pay=1:take 5;", 1, 43);
    }

    private static void fault() {
        VillagePay x = new VillagePay();
        Checks.rules(x, 0, "take 5;");
        c.is("fault(0)", x.fault(0), 2);
        c.is("fault(1)", x.fault(1), 5);
        c.is("fault(2)", x.fault(2), -1);
        c.is("fault(-1)", x.fault(-1), -1);
        x.reign(0);
        c.is("fault(0) of the latest", x.fault(0), 0);
        c.is("fault(1) of the latest", x.fault(1), -1);
    }

    private static void scale() {
        VillagePay x = new VillagePay();
        x.days(10);
        x.officer(4, 2);
        x.days(10);
        int[] want = {0, 12, 0, 150, 0};
        for (int what = 0; what < 5; what++) {
            c.is("without rules, " + what, x.scale(0, 20, 20, what), want[what]);
        }
        int[][] wrong = {{-1, 20, 20, 1}, {1, 20, 20, 1}, {0, -1, 20, 1}, {0, 1200, 20, 1}, {0, 20, -1, 1},
            {0, 20, 21, 1}, {0, 9, 20, 1}, {0, 20, 20, -1}, {0, 20, 20, 5}};
        for (int[] w : wrong) {
            c.is("scale(" + w[0] + ", " + w[1] + ", " + w[2] + ", " + w[3] + ")", x.scale(w[0], w[1], w[2], w[3]), -1);
        }
        x.dies(0);
        c.is("its last day", x.scale(0, 19, 20, 1), 12);
        c.is("dead", x.scale(0, 20, 20, 1), -1);
    }

    private static void scales(String text, int pay, int months, int crown, int take, int due) {
        VillagePay x = new VillagePay();
        x.officer(4, 2);
        Checks.rules(x, 0, text);
        int[] want = {pay, months, crown, take, due};
        for (int what = 0; what < 5; what++) {
            c.is("[" + text + "] " + what, x.scale(0, 0, 0, what), want[what]);
        }
    }

    private static void scaleLines() {
        scales("pay 100;pay 55;", 155, 12, 0, 150, 155);
        scales("pay 99;less 10;", 90, 12, 0, 150, 90);
        scales("pay 99;less 10;less 10;", 81, 12, 0, 150, 81);
        scales("less 50;pay 100;", 100, 12, 0, 150, 100);
        scales("pay 7;less 100;", 0, 12, 0, 150, 0);
        scales("pay 100;months 5;", 100, 5, 0, 150, 41);
        scales("months 5;months 7;pay 100;", 100, 7, 0, 150, 58);
        scales("crown 7;crown 100;take 50;", 0, 12, 100, 50, 0);
        scales("take 50;take 149;", 0, 12, 0, 149, 0);
        scales("pay 1;stop;pay 2;", 1, 12, 0, 150, 1);
        scales("pay 1;if rank=5:stop;pay 2;", 3, 12, 0, 150, 3);
        scales("if rank=5:pay 1;pay 2;", 2, 12, 0, 150, 2);
        scales(times(16, "pay 9999;"), 159984, 12, 0, 150, 159984);
    }

    private static void tests(VillagePay x, String test, int officer, int day, boolean want) {
        x.image(0);
        Checks.rules(x, 0, "if " + test + ":pay 1;");
        c.is("[" + test + "] of " + officer + " on " + day, x.scale(officer, day, x.count(4), 0), want ? 1 : 0);
        x.again(0);
    }

    private static void scaleTests() {
        VillagePay x = new VillagePay();
        x.village(100, 0, 0);
        x.village(100, 0, 0);
        x.days(10);
        x.officer(4, 7);
        x.give(0, 0, 50);
        x.give(1, 0, 60);
        x.raise(0, 6, 100);
        for (int n = 3; n <= 5; n++) {
            tests(x, "rank<" + n, 0, 10, 4 < n);
            tests(x, "rank>" + n, 0, 10, 4 > n);
            tests(x, "rank=" + n, 0, 10, 4 == n);
            tests(x, "not rank<" + n, 0, 10, 4 >= n);
            tests(x, "not rank>" + n, 0, 10, 4 <= n);
            tests(x, "not rank=" + n, 0, 10, 4 != n);
        }
        tests(x, "rank=4", 0, 99, true);
        tests(x, "rank=6", 0, 100, true);
        tests(x, "kin=7", 0, 10, true);
        tests(x, "kin=4", 0, 10, false);
        tests(x, "served=0", 0, 129, true);
        tests(x, "served=1", 0, 130, true);
        tests(x, "served=1", 0, 249, true);
        tests(x, "served=2", 0, 250, true);
        tests(x, "served=9", 0, 1199, true);
        tests(x, "season=0", 0, 59, true);
        tests(x, "season=1", 0, 60, true);
        tests(x, "season=1", 0, 119, true);
        tests(x, "season=0", 0, 120, true);
        tests(x, "had=0", 0, 49, true);
        tests(x, "had=1", 0, 50, true);
        tests(x, "had=1", 0, 59, true);
        tests(x, "had=2", 0, 60, true);
        tests(x, "kin=7 and rank=4 and had=0 and served=0", 0, 10, true);
        tests(x, "kin=7 and rank=4 and had=0 and served=1", 0, 10, false);
        tests(x, "kin=6 and rank=4", 0, 10, false);
        tests(x, "not kin=6 and rank=4", 0, 10, true);
        tests(x, "famine", 0, 10, false);
        tests(x, "not famine", 0, 10, true);
    }

    private static void scaleFamine() {
        VillagePay x = new VillagePay();
        x.village(100, 0, 0);
        x.village(100, 0, 0);
        x.officer(0, 0);
        x.officer(0, 0);
        x.give(0, 0, 30);
        x.give(1, 1, 0);
        x.days(5);
        x.say(0, 0, 1, 24);
        x.say(3, 0, 1, 24);
        Checks.rules(x, 0, "if famine:pay 1;");
        c.is("the season ahead", x.scale(0, 59, 5, 0), 0);
        c.is("its first day", x.scale(0, 60, 5, 0), 1);
        c.is("its last day", x.scale(0, 119, 5, 0), 1);
        c.is("the next season", x.scale(0, 120, 5, 0), 0);
        c.is("as known ahead of the words", x.scale(0, 60, 4, 0), 0);
        c.is("one that holds another", x.scale(1, 60, 5, 0), 0);
        x.give(0, -1, 90);
        c.is("held no more", x.scale(0, 90, 5, 0), 0);
        c.is("held still", x.scale(0, 89, 5, 0), 1);
    }

    private static void scaleByReign() {
        VillagePay x = new VillagePay();
        x.officer(0, 0);
        x.days(50);
        Checks.rules(x, 10, "pay 1;");
        Checks.rules(x, 20, "pay 2;pay 3;");
        Checks.rules(x, 30, "");
        Checks.rules(x, 40, "if rank=0:pay 7;");
        int[][] want = {{0, 0}, {9, 0}, {10, 1}, {19, 1}, {20, 5}, {29, 5}, {30, 0}, {39, 0}, {40, 7}, {1199, 7}};
        for (int[] w : want) {
            c.is("pay on day " + w[0], x.scale(0, w[0], 0, 0), w[1]);
        }
    }

    private static void scaleAsKnown() {
        VillagePay x = new VillagePay();
        x.village(100, 0, 0);
        x.officer(1, 0);
        Checks.rules(x, 0, "if rank>4:pay 10;if had=1:pay 1;");
        x.days(3);
        x.raise(0, 5, 0);
        x.days(3);
        x.give(0, 0, 0);
        c.is("known on 2", x.scale(0, 1, 2, 0), 0);
        c.is("known on 3", x.scale(0, 1, 3, 0), 10);
        c.is("known on 6", x.scale(0, 1, 6, 0), 11);
    }

    private static void due() {
        VillagePay x = new VillagePay();
        x.days(30);
        x.officer(1, 0);
        Checks.rules(x, 0, "pay 1200;if rank=2:pay 120;");
        int[][] wrong = {{-1, 0, 0}, {1, 0, 0}, {0, -1, 0}, {0, 20, 0}, {0, 0, -1}, {0, 0, 31}};
        for (int[] w : wrong) {
            c.is("due(" + w[0] + ", " + w[1] + ", " + w[2] + ")", x.due(w[0], w[1], w[2]), -1);
        }
        c.is("half a season", x.due(0, 0, 30), 300);
        c.is("a season to come", x.due(0, 19, 30), 600);
        x.raise(0, 2, 100);
        c.is("20 of its days with another rank", x.due(0, 1, 30), 620);
        c.is("as known ahead", x.due(0, 1, 29), 600);
        Checks.rules(x, 119, "pay 5;");
        c.is("the last day by other rules", x.due(0, 1, 30), 609);
        c.is("5 * 60 / 120 is 2", x.due(0, 2, 30), 2);
        x.days(31);
        x.dies(0);
        c.is("one day till its death", x.due(0, 1, 61), 10);
        c.is("none behind it", x.due(0, 2, 61), 0);
        VillagePay y = new VillagePay();
        y.days(10);
        y.officer(1, 0);
        Checks.rules(y, 0, "if served=1:pay 120;");
        c.is("50 days of the second year", y.due(0, 2, 0), 50);
        c.is("a season of it", y.due(0, 3, 0), 60);
        c.is("10 days of it", y.due(0, 4, 0), 10);
        VillagePay z = new VillagePay();
        z.days(30);
        z.officer(1, 0);
        Checks.rules(z, 0, "pay 119;");
        Checks.rules(z, 31, "");
        c.is("one day of 119", z.due(0, 0, 30), 0);
        Checks.rules(z, 59, "pay 1;");
        c.is("and one of 1", z.due(0, 0, 30), 1);
        c.is("60 days of 1", z.due(0, 1, 30), 0);
    }

    private static void balance() {
        VillagePay x = new VillagePay();
        x.village(1000, 0, 0);
        x.days(70);
        x.officer(1, 0);
        x.give(0, 0, 0);
        Checks.rules(x, 0, "pay 1201;");
        x.days(110);
        int none = -1000000000;
        int[][] wrong = {{-1, 0, 0}, {1, 0, 0}, {0, -1, 0}, {0, 20, 0}, {0, 0, -1}, {0, 0, 181}, {0, 3, 180}};
        for (int[] w : wrong) {
            c.is("balance(" + w[0] + ", " + w[1] + ", " + w[2] + ")", x.balance(w[0], w[1], w[2]), none);
        }
        c.is("wholly ahead of its coming", x.balance(0, 0, 180), 0);
        c.is("416 less 500", x.balance(0, 1, 180), -84);
        c.is("500 less 600 more", x.balance(0, 2, 180), -184);
        c.is("as known ahead of the order", x.balance(0, 2, 69), -1100);
        VillagePay y = new VillagePay();
        y.village(1000, 0, 0);
        y.officer(1, 0);
        y.give(0, 0, 0);
        Checks.rules(y, 0, "pay 200;");
        y.days(120);
        c.is("500 less 100", y.balance(0, 0, 120), 400);
        c.is("twice", y.balance(0, 1, 120), 800);
    }
}
