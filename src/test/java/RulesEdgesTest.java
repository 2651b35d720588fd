/** The edges of Term 3 and of promises 16 to 22; each test bears the sentence that it holds the class to. */
public final class RulesEdgesTest {
    private static final Checks c = new Checks("RulesEdgesTest");
    private static final Edges e = new Edges(c);
    private static final Edges.Life NEW = x -> { };
    private static final Edges.Life TOWN = Edges::town;
    private static final int NO_BALANCE = -1000000000;

    public static void main(String[] args) {
        tapeAtMost500();
        feedTakesAnyInt();
        endFrom0ToItsLength();
        reignsAtMost4();
        reignOnADayThatIsNone();
        reignLaterThanTheOnesAhead();
        reignTakesTheTape();
        reignWithAFaultIsNone();
        faultsOfTheLastReign();
        reignWithoutATape();
        faultForAnotherWhat();
        faultOfTheLatestReign();
        letters();
        digits();
        numbersHave1To4Digits();
        signsAreOneByteEach();
        blanks();
        tokensAsLongAsTheyGo();
        placesOfFaults();
        placeOfTheEnd();
        eachWordWhereNoTextGoesOn();
        monthsFrom1To12();
        lessAndCrownUpTo100();
        takeFrom50To150();
        payTakesAnyNumber();
        linesAtMost16();
        testsAtMost4();
        faultsInTheirOrder();
        aFullTape();
        rulesOfADay();
        scaleAtFirst();
        scaleOfLines();
        scaleOfTheMost();
        testsByComparing();
        servedWholeYears();
        seasonOfTheDay();
        hadHowManyVillages();
        famineOfTheDay();
        scaleOfNoneSuch();
        scaleForAnotherWhat();
        dueOfNoneSuch();
        dueByDaysOfService();
        dueIsCutOnce();
        dueOfAllDays();
        balanceOfNoneSuch();
        balanceOfOneThatDidNotEnd();
        balanceOfSeasonsAheadOfItsComing();
        balanceIsOfAllSeasons();
        c.finish();
    }

    /** A tape of n bytes, all blanks. */
    private static void blankTape(VillagePay x, int n) {
        Checks.tape(x, " ".repeat(n));
    }

    private static void wrong(String text, int fault, int place) {
        VillagePay x = new VillagePay();
        c.is("[" + text + "]", Checks.rules(x, 7, text), -1);
        c.is("[" + text + "] fault", x.fault(0), fault);
        c.is("[" + text + "] place", x.fault(1), place);
        c.is("[" + text + "] is no reign", x.count(3), 0);
        c.is("[" + text + "] is taken", x.end(1), -1);
    }

    private static void right(String text, int lines) {
        VillagePay x = new VillagePay();
        c.is("[" + text + "]", Checks.rules(x, 7, text), lines);
        c.is("[" + text + "] fault", x.fault(0), 0);
        c.is("[" + text + "] place", x.fault(1), -1);
        c.is("[" + text + "] is a reign", x.count(3), 1);
        c.is("[" + text + "] is taken", x.end(1), -1);
    }

    // ---- promise 16

    /** "THE TAPE has at most 500 bytes"; "NONE, and nothing comes, if there would be more than 500." */
    private static void tapeAtMost500() {
        for (int length : new int[] {0, 1, 479, 480}) {
            e.answers("feed behind " + length, x -> blankTape(x, length), length + 20, x -> x.feed(0, 0, 0, 0, 0));
        }
        for (int length : new int[] {481, 490, 499, 500}) {
            e.refused("feed behind " + length, x -> blankTape(x, length), -1, x -> x.feed(1, 2, 3, 4, 5));
        }
        VillagePay x = new VillagePay();
        for (int i = 1; i <= 25; i++) {
            c.is("feed " + i, x.feed(0x20202020, 0x20202020, 0x20202020, 0x20202020, 0x20202020), 20 * i);
        }
        c.is("a 26th", x.feed(0, 0, 0, 0, 0), -1);
        c.is("it has 500 still", x.end(500), 500);
        c.is("all of them blanks", x.reign(0), 0);
        c.is("there is room again", x.feed(0, 0, 0, 0, 0), 20);
    }

    /** "twenty bytes come behind it, of each number the highest first". */
    private static void feedTakesAnyInt() {
        VillagePay x = new VillagePay();
        c.is("the ends of int", x.feed(Edges.LEAST, Edges.MOST, -1, 0, 1), 20);
        c.is("are no text", x.reign(0), -1);
        c.is("from the first byte on", x.fault(1), 0);
        // each of the five numbers has a line's part: "pay " "12;p" "ay 3" "4;st" "op; "
        x.feed(0x70617920, 0x31323b70, 0x61792033, 0x343b7374, 0x6f703b20);
        c.is("five numbers, byte by byte", x.reign(0), 3);
        x.officer(0, 0);
        c.is("12 and 34", x.scale(0, 0, 0, 0), 46);
        for (int place = 0; place < 20; place++) {
            int[] n = {0x20202020, 0x20202020, 0x20202020, 0x20202020, 0x20202020};
            n[place / 4] ^= 1 << 8 * (3 - place % 4);
            VillagePay y = new VillagePay();
            y.feed(n[0], n[1], n[2], n[3], n[4]);
            y.reign(0);
            c.is("byte " + place + " is 33", y.fault(1), place);
        }
    }

    // ---- promise 17

    /** "The tape has its first n bytes alone: n. NONE if it has not so many, or n is below 0." */
    private static void endFrom0ToItsLength() {
        for (int length : new int[] {0, 1, 20, 499, 500}) {
            Edges.Life life = x -> blankTape(x, length);
            for (int n : Edges.beside(0, length)) {
                e.refused("end(" + n + ") of " + length, life, -1, x -> x.end(n));
            }
            e.refused("end(" + length + ") of " + length + ", which is taken,", life, length, x -> x.end(length));
            e.answers("end(0) of " + length, life, 0, x -> x.end(0));
        }
        VillagePay x = new VillagePay();
        Checks.tape(x, "pay 7;stop;");
        c.is("its first six", x.end(6), 6);
        c.is("what was cut off does not come back", x.end(7), -1);
        c.is("one line", x.reign(0), 1);
        VillagePay y = new VillagePay();
        Checks.tape(y, "pay 78;stop;");
        y.end(5);
        c.is("new bytes come behind the first n", y.feed(0x313b2020, 0x20202020, 0x20202020, 0x20202020, 0x20202020), 25);
        y.reign(0);
        y.officer(0, 0);
        c.is("pay 71", y.scale(0, 0, 0, 0), 71);
    }

    // ---- promise 18

    /** "one for each REIGN, at most 4"; "-2 (the tape is taken, FAULT 0): there are 4". */
    private static void reignsAtMost4() {
        Edges.Life four = x -> {
            x.officer(0, 0);
            for (int i = 1; i <= 4; i++) {
                Checks.rules(x, i, "pay " + i + ";");
            }
        };
        VillagePay x = new VillagePay();
        for (int i = 0; i < 4; i++) {
            c.is("reign " + i, Checks.rules(x, 10 * i, "stop;"), 1);
            c.is("so many", x.count(3), i + 1);
        }
        e.refused("a fifth, without a tape", four, -2, y -> y.reign(1199));
        e.refused("a fifth, with one", four, -2, y -> Checks.rules(y, 1199, "pay 9;"));
        e.refused("a fifth, with a wrong one", four, -2, y -> Checks.rules(y, 1199, "pay;"));
        for (int i = 1; i <= 4; i++) {
            int day = i;
            e.answers("the rules of " + i + " stand", four, i, y -> y.scale(0, day, 0, 0));
        }
    }

    /** "-2 [..]: [..] that DAY is none". */
    private static void reignOnADayThatIsNone() {
        Edges.Life bare = x -> x.officer(3, 3);
        for (int day : Edges.beside(0, 1199)) {
            e.refused("reign(" + day + ")", bare, -2, x -> x.reign(day));
            e.refused("reign(" + day + ") with a tape", bare, -2, x -> Checks.rules(x, day, "pay 1;"));
            e.refused("reign(" + day + ") with a wrong tape", bare, -2, x -> Checks.rules(x, day, "pay 1"));
        }
        for (int day : new int[] {0, 1199}) {
            VillagePay x = Edges.led(bare);
            c.is("reign(" + day + ")", Checks.rules(x, day, "pay 1;"), 1);
            c.is("its rules", x.scale(0, day, 0, 0), 1);
        }
    }

    /** "a REIGN begins on a DAY, later than the ones ahead of it"; "-2 [..]: [..] not later than the ones ahead." */
    private static void reignLaterThanTheOnesAhead() {
        Edges.Life one = x -> {
            x.officer(3, 3);
            Checks.rules(x, 100, "pay 1;");
        };
        for (int day : new int[] {0, 99, 100}) {
            e.refused("reign(" + day + ") behind 100", one, -2, x -> Checks.rules(x, day, "pay 2;"));
        }
        e.changes("reign(101) behind 100", one, 1, x -> Checks.rules(x, 101, "pay 2;"));
        e.changes("reign(1199) behind 100", one, 1, x -> Checks.rules(x, 1199, "pay 2;"));
        VillagePay x = Edges.led(one);
        Checks.rules(x, 150, "pay 2;");
        c.is("later than the first, not than the second", Checks.rules(x, 120, "pay 3;"), -2);
        c.is("the second's day", Checks.rules(x, 150, "pay 3;"), -2);
        Checks.rules(x, 1199, "pay 3;");
        c.is("none is later than the last day", Checks.rules(x, 1199, "pay 4;"), -2);
        c.is("three", x.count(3), 3);
        VillagePay y = Edges.led(one);
        Checks.rules(y, 150, "pay");
        c.is("one with a fault is not ahead", Checks.rules(y, 101, "pay 2;"), 1);
        VillagePay z = new VillagePay();
        z.days(50);
        c.is("a day that went by", Checks.rules(z, 0, "stop;"), 1);
    }

    /** "The tape is taken (and is empty then)"; "-2 (the tape is taken, FAULT 0)". */
    private static void reignTakesTheTape() {
        String[] texts = {"pay 5;", "pay", "months 13;", " "};
        int[] answers = {1, -1, -1, 0};
        for (int i = 0; i < 4; i++) {
            VillagePay x = new VillagePay();
            c.is("[" + texts[i] + "]", Checks.rules(x, 5, texts[i]), answers[i]);
            c.is("[" + texts[i] + "] is taken", x.end(1), -1);
            c.is("[" + texts[i] + "] none is left", x.feed(0, 0, 0, 0, 0), 20);
            VillagePay y = new VillagePay();
            Checks.rules(y, 0, "take 5;");
            c.is("a fault ahead", y.fault(0), 2);
            c.is("[" + texts[i] + "] on no day", Checks.rules(y, 1200, texts[i]), -2);
            c.is("[" + texts[i] + "] on no day, fault", y.fault(0), 0);
            c.is("[" + texts[i] + "] on no day, place", y.fault(1), -1);
            c.is("[" + texts[i] + "] on no day, taken", y.end(1), -1);
        }
    }

    /** "NONE: a FAULT.": and all but the tape and the FAULT is as ahead. */
    private static void reignWithAFaultIsNone() {
        Edges.Life life = x -> {
            x.officer(3, 3);
            Checks.rules(x, 0, "pay 1;if rank=3:pay 20;take 140;");
            Checks.rules(x, 1, "pay");
        };
        String[] texts = {"pay", "pay;", "pay 5", "pa", "?"};
        for (String text : texts) {
            VillagePay x = Edges.led(life);
            c.is("[" + text + "]", Checks.rules(x, 9, text), -1);
            c.is("[" + text + "] no reign more", x.count(3), 1);
            c.is("[" + text + "] the pay", x.scale(0, 9, 0, 0), 21);
            c.is("[" + text + "] the take", x.scale(0, 1199, 0, 3), 140);
        }
        e.refused("the same fault again", life, -1, x -> Checks.rules(x, 9, "pay"));
        VillagePay left = Edges.led(life);
        Checks.rules(left, 9, "if rank=9 and not kin=3:pay 900;if not famine and rank=9:crown 5;pay");
        Checks.rules(left, 9, "pay 7;pay 80;");
        c.is("nothing is left of its tests", left.scale(0, 9, 0, 0), 87);
        Checks.rules(left, 10, "stop;stop;stop");
        left.reign(10);
        c.is("nothing is left of its lines", left.scale(0, 10, 0, 0), 0);
    }

    /** "NONE: a FAULT.", where no room is left: the last reign, with a line or a test too many. */
    private static void faultsOfTheLastReign() {
        Edges.Life three = x -> {
            x.officer(3, 3);
            x.officer(4, 4);
            for (int r = 0; r < 3; r++) {
                Checks.rules(x, r, "if rank=3 and kin=3 and had=0 and not famine:pay " + (r + 1) + ";");
            }
            Checks.rules(x, 3, "pay");
        };
        String five = "if kin=1 and kin=1 and kin=1 and kin=1 and kin=1:pay 9;";
        String[] texts = {"pay 1;".repeat(16) + "if rank=3 and kin=3:pay 1;", "pay 1;".repeat(15) + five, "stop;".repeat(100),
            "if " + "rank=3 and ".repeat(40) + "rank=3:pay 1;", "pay 1;".repeat(20) + five};
        int[][] want = {{3, 96}, {3, 90 + 43}, {3, 80}, {3, 3 + 4 * 11}, {3, 96}};
        for (int i = 0; i < texts.length; i++) {
            VillagePay x = Edges.led(three);
            c.is("[" + texts[i] + "]", Checks.rules(x, 1199, texts[i]), -1);
            c.is("[" + texts[i] + "] fault", x.fault(0), want[i][0]);
            c.is("[" + texts[i] + "] place", x.fault(1), want[i][1]);
            c.is("[" + texts[i] + "] three reigns", x.count(3), 3);
            for (int r = 0; r < 3; r++) {
                c.is("[" + texts[i] + "] pay of reign " + r, x.scale(0, r, 0, 0), r + 1);
                c.is("[" + texts[i] + "] pay of reign " + r + " to another", x.scale(1, r, 0, 0), 0);
            }
            c.is("[" + texts[i] + "] and one that is right", Checks.rules(x, 1199, "if rank=3:pay 7;"), 1);
            c.is("[" + texts[i] + "] its pay", x.scale(0, 1199, 0, 0), 7);
            c.is("[" + texts[i] + "] its pay to another", x.scale(1, 1199, 0, 0), 0);
        }
    }

    /** "TEXT: {LINE}": an empty tape, or blanks alone, is a text of no line. */
    private static void reignWithoutATape() {
        VillagePay x = new VillagePay();
        x.officer(0, 0);
        c.is("an empty tape", x.reign(0), 0);
        c.is("a reign of no rules", x.count(3), 1);
        c.is("fault", x.fault(0), 0);
        Checks.rules(x, 1, "pay 5;");
        blankTape(x, 500);
        c.is("500 blanks", x.reign(2), 0);
        c.is("pay on the day ahead", x.scale(0, 1, 0, 0), 5);
        c.is("pay by no rules", x.scale(0, 2, 0, 0), 0);
    }

    // ---- promise 19

    /** "NONE for another what." */
    private static void faultForAnotherWhat() {
        for (int what : Edges.beside(0, 1)) {
            e.refused("fault(" + what + ")", TOWN, -1, x -> x.fault(what));
            e.answers("new: fault(" + what + ")", NEW, -1, x -> x.fault(what));
        }
        e.answers("fault(0)", TOWN, 2, x -> x.fault(0));
        e.answers("fault(1)", TOWN, 7, x -> x.fault(1));
    }

    /** "Of the latest reign(), what 0: the FAULT, 0 without, 1: its place, NONE without." */
    private static void faultOfTheLatestReign() {
        VillagePay x = new VillagePay();
        c.is("ahead of all, fault", x.fault(0), 0);
        c.is("ahead of all, place", x.fault(1), -1);
        Checks.rules(x, 0, "take 49;");
        c.is("2", x.fault(0), 2);
        c.is("at 5", x.fault(1), 5);
        Checks.tape(x, "x");
        c.is("a tape alone is no reign()", x.fault(0), 2);
        x.reign(0);
        c.is("1", x.fault(0), 1);
        c.is("at 0", x.fault(1), 0);
        Checks.rules(x, 0, "stop;".repeat(17));
        c.is("3", x.fault(0), 3);
        c.is("at 80", x.fault(1), 80);
        Checks.rules(x, 0, "stop;");
        c.is("none", x.fault(0), 0);
        c.is("no place", x.fault(1), -1);
        Checks.rules(x, 5, "stop");
        x.reign(0);
        c.is("-2: none", x.fault(0), 0);
        c.is("-2: no place", x.fault(1), -1);
    }

    // ---- Term 3: tokens

    /** "WORDS, rows of letters a .. z". */
    private static void letters() {
        right("take 50;take 50;", 2);
        for (char sign : new char[] {'`', '{', 'A', 'Z', '@', '[', '_'}) {
            wrong("pay" + sign + "5;", 1, 3);
            wrong(sign + "pay 5;", 1, 0);
        }
        wrong("paya 5;", 1, 0);
        wrong("payz 5;", 1, 0);
        wrong("azpay 5;", 1, 0);
        wrong("PAY 5;", 1, 0);
        wrong("paY 5;", 1, 0);
    }

    /** "NUMBERS, [..] digits": 0 .. 9. */
    private static void digits() {
        right("pay 0123;pay 4567;pay 89;", 3);
        for (char sign : new char[] {'/', '.', '-', '+', ',', (char) 0xb2}) {
            wrong("pay 1" + sign + "2;", 1, 5);
            wrong("pay " + sign + "2;", 1, 4);
        }
        wrong("pay 1:2;", 1, 5);
        wrong("pay 0x1;", 1, 5);
        VillagePay x = new VillagePay();
        x.officer(0, 0);
        Checks.rules(x, 0, "pay 0000;pay 0009;pay 0010;pay 9000;pay 9;pay 09;");
        c.is("0 + 9 + 10 + 9000 + 9 + 9", x.scale(0, 0, 0, 0), 9037);
    }

    /** "NUMBERS, 1 to 4 digits"; "(a longer row of digits is no token)". */
    private static void numbersHave1To4Digits() {
        right("pay 1;", 1);
        right("pay 9999;", 1);
        right("pay 0000;", 1);
        wrong("pay 10000;", 1, 4);
        wrong("pay 00000;", 1, 4);
        wrong("pay 00001;", 1, 4);
        wrong("pay 99999999999999999999;", 1, 4);
        wrong("pay " + "9".repeat(496), 1, 4);
        wrong("if rank<12345:stop;", 1, 8);
        right("if rank<1234:stop;", 1);
        wrong("less 00100;", 1, 5);
        right("less 0100;", 1);
        wrong("pay 1234 5;", 1, 9);
        wrong("pay 1234\n5678;", 1, 9);
    }

    /** "signs : ; < > = one byte each". */
    private static void signsAreOneByteEach() {
        right("if rank<1:stop;if rank>1:stop;if rank=1:stop;", 3);
        wrong("if rank<>1:stop;", 1, 8);
        wrong("if rank==1:stop;", 1, 8);
        wrong("if rank<=1:stop;", 1, 8);
        wrong("if rank>=1:stop;", 1, 8);
        wrong("if rank!1:stop;", 1, 7);
        wrong("if rank?1:stop;", 1, 7);
        wrong("if rank=1::stop;", 1, 10);
        wrong("stop;;", 1, 5);
        wrong("stop:", 1, 4);
        wrong("stop,", 1, 4);
        wrong("if famine;stop;", 1, 9);
    }

    /** "blanks (10, 32) between". */
    private static void blanks() {
        for (int sign = 0; sign < 256; sign++) {
            String text = "stop;" + (char) sign + "stop;";
            if (sign == 10 || sign == 32) {
                right(text, 2);
            } else {
                wrong(text, 1, 5);
            }
        }
        right("\n \nif\n not \n rank \n = \n 1 \n : \n pay \n 5 \n ; \n ", 1);
        right("if not rank=1:pay 5;\n", 1);
        right(" \n ", 0);
        wrong("sto p;", 1, 0);
        wrong("st\nop;", 1, 0);
        wrong("pay 1 2;", 1, 6);
    }

    /** "TOKENS, as long as they go". */
    private static void tokensAsLongAsTheyGo() {
        right("pay5;less5;months5;crown5;take50;", 5);
        right("if rank<5and kin=1and famine:stop;", 1);
        wrong("ifrank<5:stop;", 1, 0);
        wrong("if notfamine:stop;", 1, 3);
        wrong("if famineand rank=1:stop;", 1, 3);
        wrong("if famine andrank=1:stop;", 1, 10);
        wrong("stopstop;", 1, 0);
        wrong("paypay 5;", 1, 0);
        wrong("pay 5stop;", 1, 5);
        right("stop;stop;", 2);
        right("if rank=1:stop;pay 5;stop;", 3);
        for (String word : new String[] {"pa", "les", "month", "crow", "tak", "sto", "i", "an", "famin", "p", "s"}) {
            wrong(word + " 5;", 1, 0);
            wrong("stop;" + word, 1, 5);
        }
    }

    // ---- Term 3: faults of kind 1

    /** "FAULTS, with places (a token's first byte; the end's): 1 the first byte or token with which no text goes on". */
    private static void placesOfFaults() {
        wrong("pay  \n x;", 1, 7);
        wrong("pay  \n xyz 12345 ;", 1, 7);
        wrong("stop;stop;  rank", 1, 12);
        wrong("pay 5; !", 1, 7);
        wrong("if famine and  and:stop;", 1, 15);
        wrong("if rank  5:stop;", 1, 9);
        wrong("if rank <  =5:stop;", 1, 11);
        wrong("if rank < 5  stop;", 1, 13);
        wrong("if not  pay 5;", 1, 8);
        wrong("if not  :stop;", 1, 8);
        wrong("if rank=1: if famine:stop;", 1, 11);
        wrong("pay 5 and pay 6;", 1, 6);
        wrong("stop\0;", 1, 4);
        wrong("pay 5;\u00ff", 1, 6);
        wrong("?" + " ".repeat(499), 1, 0);
        wrong(" ".repeat(499) + "?", 1, 499);
    }

    /** "(a token's first byte; the end's)": a text that breaks off has its fault at the tape's length. */
    private static void placeOfTheEnd() {
        String text = "if not rank < 5 and famine : pay 12 ;";
        for (int n = 1; n < text.length(); n++) {
            String part = text.substring(0, n);
            // within a word or behind a part of one, that token itself fits no text
            int last = n;
            while (last > 0 && Character.isLetter(part.charAt(last - 1))) {
                last--;
            }
            boolean whole = last == n || !Character.isLetter(text.charAt(n));
            wrong(part, 1, whole ? n : last);
        }
        right(text, 1);
        wrong("pay 5   ", 1, 8);
        wrong("pay\n", 1, 4);
        wrong(" if", 1, 3);
        wrong("stop" + " ".repeat(496), 1, 500);
        VillagePay x = new VillagePay();
        Checks.tape(x, "pay 5;stop;");
        x.end(9);
        x.reign(0);
        c.is("cut by end(9): a part of stop", x.fault(1), 6);
        Checks.tape(x, "pay 5;stop;");
        x.end(10);
        x.reign(0);
        c.is("cut by end(10): the end's", x.fault(1), 10);
    }

    /** "LINE: ['if' TEST {'and' TEST} ':'] ((..) NUMBER | 'stop') ';'. TEST: ['not'] ('famine' | (..) (..) NUMBER)." */
    private static void eachWordWhereNoTextGoesOn() {
        String[] words = {"if", "and", "not", "pay", "less", "months", "crown", "take", "stop", "famine", "rank", "served",
            "kin", "season", "had"};
        for (int i = 0; i < words.length; i++) {
            String word = words[i];
            boolean deed = i >= 3 && i <= 7;
            boolean subject = i >= 10;
            boolean stop = i == 8;
            boolean famine = i == 9;
            boolean not = i == 2;
            place(word, 0, !(i == 0 || deed || stop));
            place("if " + word, 3, !(not || famine || subject));
            place("if not " + word, 7, !(famine || subject));
            place("if famine " + word, 10, i != 1);
            place("if rank " + word, 8, true);
            place("if rank= " + word, 9, true);
            place("if rank=1 " + word, 10, i != 1);
            place("if famine and " + word, 14, !(not || famine || subject));
            place("if famine: " + word, 11, !(deed || stop));
            place("pay " + word, 4, true);
            place("pay 5 " + word, 6, true);
            place("stop " + word, 5, true);
        }
        for (String deed : new String[] {"pay", "less", "months", "crown", "take"}) {
            wrong(deed + ";", 1, deed.length());
            wrong(deed + " :", 1, deed.length() + 1);
            right(deed + " " + (deed.equals("take") ? 50 : 5) + ";", 1);
        }
        right("stop;", 1);
        wrong("stop 1;", 1, 5);
        right("if famine:stop;", 1);
        wrong("if famine=0:stop;", 1, 9);
        for (String subject : new String[] {"rank", "served", "kin", "season", "had"}) {
            wrong("if " + subject + ":stop;", 1, 3 + subject.length());
            for (String sign : new String[] {"<", ">", "="}) {
                right("if " + subject + sign + "0:stop;", 1);
                right("if not " + subject + sign + "9999:stop;", 1);
                wrong("if " + subject + sign + ":stop;", 1, 4 + subject.length());
            }
        }
    }

    /** A text that breaks off behind its last word: the fault is at a word with which no text goes on, else at the end. */
    private static void place(String text, int last, boolean unfit) {
        wrong(text, 1, unfit ? last : text.length());
    }

    // ---- Term 3: faults of kinds 2 and 3

    /** "2 a NUMBER behind months that is not 1 .. 12". */
    private static void monthsFrom1To12() {
        wrong("months 0;", 2, 7);
        right("months 1;", 1);
        right("months 12;", 1);
        wrong("months 13;", 2, 7);
        wrong("months 0000;", 2, 7);
        wrong("months 9999;", 2, 7);
        wrong("months   13;", 2, 9);
        right("months 0012;", 1);
    }

    /** "behind less or crown above 100". */
    private static void lessAndCrownUpTo100() {
        right("less 0;", 1);
        right("less 100;", 1);
        wrong("less 101;", 2, 5);
        wrong("less 9999;", 2, 5);
        right("crown 0;", 1);
        right("crown 100;", 1);
        wrong("crown 101;", 2, 6);
        wrong("crown 9999;", 2, 6);
        wrong("crown\n\n0101;", 2, 7);
    }

    /** "behind take that is not 50 .. 150". */
    private static void takeFrom50To150() {
        wrong("take 0;", 2, 5);
        wrong("take 49;", 2, 5);
        right("take 50;", 1);
        right("take 150;", 1);
        wrong("take 151;", 2, 5);
        wrong("take 9999;", 2, 5);
    }

    /** No sentence bounds a NUMBER behind pay, or in a TEST. */
    private static void payTakesAnyNumber() {
        right("pay 0;", 1);
        right("pay 9999;", 1);
        right("if rank=9999:pay 5;", 1);
        right("if season>9999:pay 5;", 1);
        right("if served<0:pay 5;", 1);
    }

    /** "3 one too many, at its first token: a 17th LINE". */
    private static void linesAtMost16() {
        right("stop;".repeat(16), 16);
        right("pay 1;".repeat(16), 16);
        right("if famine and kin=1:less 10;".repeat(16), 16);
        wrong("stop;".repeat(17), 3, 80);
        wrong("stop;".repeat(16) + " \n pay 1;", 3, 83);
        wrong("stop;".repeat(16) + "if famine:stop;", 3, 80);
        wrong("stop;".repeat(18), 3, 80);
        wrong("stop;".repeat(100), 3, 80);
        right("stop;".repeat(16) + " \n", 16);
        VillagePay x = new VillagePay();
        x.officer(0, 0);
        Checks.rules(x, 0, "pay 1;".repeat(15) + "pay 100;");
        c.is("the 16th counts", x.scale(0, 0, 0, 0), 115);
        VillagePay y = new VillagePay();
        y.officer(0, 0);
        for (int i = 0; i < 4; i++) {
            Checks.rules(y, i, ("pay " + (i + 1) + ";").repeat(15) + "pay " + 1000 * (i + 1) + ";");
        }
        for (int i = 0; i < 4; i++) {
            c.is("16 lines of reign " + i, y.scale(0, i, 0, 0), 1015 * (i + 1));
        }
    }

    /** "a 5th TEST of a LINE". */
    private static void testsAtMost4() {
        String four = "if rank=1 and rank=1 and rank=1 and rank=1";
        right(four + ":stop;", 1);
        wrong(four + " and rank=1:stop;", 3, 47);
        wrong(four + " and not rank=1:stop;", 3, 47);
        wrong(four + " and famine:stop;", 3, 47);
        wrong(four + " and \n not famine:stop;", 3, 49);
        wrong(four + " and rank=1 and rank=1:stop;", 3, 47);
        right(four + ":stop;" + four + ":stop;", 2);
        wrong("stop;" + four + " and rank=1:stop;", 3, 52);
        right("if not famine and not famine and not famine and not famine:stop;", 1);
        VillagePay x = new VillagePay();
        x.officer(1, 0);
        Checks.rules(x, 0, four + ":pay 1;if rank=1 and rank=1 and rank=1 and rank=2:pay 10;");
        c.is("the fourth counts", x.scale(0, 0, 0, 0), 1);
    }

    /** "1 [..]. If there is none, the first of: 2 [..]. 3 [..]": kind 1 ahead of all, then the first by its place. */
    private static void faultsInTheirOrder() {
        String five = "if kin=1 and kin=1 and kin=1 and kin=1 and kin=1:";
        wrong("months 13;x", 1, 10);
        wrong("months 13;stop", 1, 14);
        wrong("stop;".repeat(17) + "x", 1, 85);
        wrong(five + "stop", 1, 53);
        wrong("months 13 x", 1, 10);
        wrong("take 1;less 101;", 2, 5);
        wrong("less 101;take 1;", 2, 5);
        wrong("take 1;" + "stop;".repeat(16), 2, 5);
        wrong("stop;".repeat(15) + "take 1;stop;", 2, 80);
        wrong("stop;".repeat(16) + "take 1;", 3, 80);
        wrong(five + "take 1;", 3, 43);
        wrong("take 1;" + five + "stop;", 2, 5);
        wrong("stop;".repeat(16) + five + "take 1;", 3, 80);
        wrong(five + "stop;" + "stop;".repeat(16), 3, 43);
    }

    /** "THE TAPE has at most 500 bytes": a text of all of them. */
    private static void aFullTape() {
        String line = "if rank=1 and kin=2:pay 10;";
        String text = line.repeat(16);
        right(text + " ".repeat(500 - text.length()), 16);
        wrong(text + " ".repeat(499 - text.length()) + "x", 1, 499);
        wrong(text + " ".repeat(500 - text.length() - 5) + "stop;", 3, 495);
        wrong(" ".repeat(495) + "stop ", 1, 500);
        right(" ".repeat(495) + "stop;", 1);
        wrong("a".repeat(500), 1, 0);
        wrong(" ".repeat(496) + "stop", 1, 500);
        wrong(" ".repeat(497) + "sto", 1, 497);
        wrong("if " + "kin=1 and ".repeat(49) + "kin=1:;", 1, 499);
    }

    // ---- Term 3: scales

    /** "a DAY's RULES are those of the latest REIGN that has begun by then (none ahead of all)". */
    private static void rulesOfADay() {
        VillagePay x = new VillagePay();
        x.officer(0, 0);
        Checks.rules(x, 1, "pay 1;");
        Checks.rules(x, 2, "pay 2;");
        Checks.rules(x, 600, "");
        Checks.rules(x, 1199, "pay 4;");
        int[][] want = {{0, 0}, {1, 1}, {2, 2}, {3, 2}, {599, 2}, {600, 0}, {1198, 0}, {1199, 4}};
        for (int[] w : want) {
            c.is("pay on " + w[0], x.scale(0, w[0], 0, 0), w[1]);
        }
        VillagePay y = new VillagePay();
        y.officer(0, 0);
        Checks.rules(y, 0, "pay 7;");
        c.is("rules from day 0", y.scale(0, 0, 0, 0), 7);
    }

    /** "PAY 0, MONTHS 12, CROWN 0, TAKE 150". */
    private static void scaleAtFirst() {
        int[] want = {0, 12, 0, 150, 0};
        String[] texts = {"", "stop;", "if rank=9:pay 5;", "stop;pay 5;months 1;crown 5;take 50;"};
        for (String text : texts) {
            VillagePay x = new VillagePay();
            x.officer(0, 0);
            Checks.rules(x, 0, text);
            for (int what = 0; what < 5; what++) {
                c.is("[" + text + "] what " + what, x.scale(0, 0, 0, what), want[what]);
            }
        }
        VillagePay x = new VillagePay();
        x.officer(0, 0);
        for (int what = 0; what < 5; what++) {
            c.is("without a reign, what " + what, x.scale(0, 1199, 0, what), want[what]);
        }
    }

    private static void scales(String text, int pay, int months, int crown, int take, int due) {
        VillagePay x = new VillagePay();
        x.officer(4, 2);
        Checks.rules(x, 0, text);
        int[] want = {pay, months, crown, take, due};
        for (int what = 0; what < 5; what++) {
            c.is("[" + text + "] what " + what, x.scale(0, 0, 0, what), want[what]);
        }
    }

    /**
     * "pay: PAY is so much more; less: PAY is less by so many percent of it, cut; months, crown, take: they are that;
     * stop: no further LINE. DUE for a year: PAY * MONTHS / 12, cut."
     */
    private static void scaleOfLines() {
        scales("pay 0;", 0, 12, 0, 150, 0);
        scales("pay 1;pay 0;", 1, 12, 0, 150, 1);
        scales("pay 99;less 0;", 99, 12, 0, 150, 99);
        scales("pay 99;less 1;", 99, 12, 0, 150, 99);
        scales("pay 100;less 1;", 99, 12, 0, 150, 99);
        scales("pay 99;less 99;", 1, 12, 0, 150, 1);
        scales("pay 99;less 100;", 0, 12, 0, 150, 0);
        scales("less 100;", 0, 12, 0, 150, 0);
        scales("pay 12;months 1;", 12, 1, 0, 150, 1);
        scales("pay 11;months 1;", 11, 1, 0, 150, 0);
        scales("pay 13;months 11;", 13, 11, 0, 150, 11);
        scales("pay 1;months 12;", 1, 12, 0, 150, 1);
        scales("months 1;months 12;pay 9;", 9, 12, 0, 150, 9);
        scales("crown 100;crown 0;", 0, 12, 0, 150, 0);
        scales("crown 100;", 0, 12, 100, 150, 0);
        scales("take 50;", 0, 12, 0, 50, 0);
        scales("take 50;take 150;", 0, 12, 0, 150, 0);
        scales("stop;pay 1;", 0, 12, 0, 150, 0);
        scales("pay 1;stop;stop;", 1, 12, 0, 150, 1);
        scales("if rank=4:stop;pay 1;", 0, 12, 0, 150, 0);
        scales("if rank=4 and kin=3:stop;pay 1;", 1, 12, 0, 150, 1);
    }

    /** The most that sixteen lines can pay. */
    private static void scaleOfTheMost() {
        scales("pay 9999;".repeat(16), 159984, 12, 0, 150, 159984);
        scales("pay 9999;".repeat(15) + "less 99;", 149985 - 148485, 12, 0, 150, 1500);
        scales("pay 9999;".repeat(15) + "months 11;", 149985, 11, 0, 150, 137486);
    }

    private static void tests(VillagePay x, String test, int day, boolean want) {
        x.image(0);
        Checks.rules(x, 0, "if " + test + ":pay 1;if not " + test + ":pay 2;");
        c.is("[" + test + "] on " + day, x.scale(0, day, x.count(4), 0), want ? 1 : 2);
        x.again(0);
    }

    /** "('<' | '>' | '=') NUMBER": at the number itself and beside it, and with not. */
    private static void testsByComparing() {
        for (int rank : new int[] {0, 5, 9}) {
            VillagePay x = new VillagePay();
            x.officer(rank, rank);
            for (int n = Math.max(0, rank - 1); n <= rank + 1; n++) {
                for (String subject : new String[] {"rank", "kin"}) {
                    tests(x, subject + "<" + n, 5, rank < n);
                    tests(x, subject + ">" + n, 5, rank > n);
                    tests(x, subject + "=" + n, 5, rank == n);
                }
            }
            tests(x, "rank<9999", 5, true);
            tests(x, "rank>9999", 5, false);
            tests(x, "rank<0", 5, false);
        }
    }

    /** "served: whole years of 120 DAYS since it came". */
    private static void servedWholeYears() {
        for (int came : new int[] {0, 1, 60}) {
            VillagePay x = new VillagePay();
            Edges.goTo(x, came);
            x.officer(0, 0);
            for (int years = 1; years <= 9; years++) {
                tests(x, "served=" + (years - 1), came + 120 * years - 1, true);
                tests(x, "served=" + years, Math.min(1199, came + 120 * years), came + 120 * years <= 1199);
                tests(x, "served<" + years, came + 120 * years - 1, true);
                tests(x, "served>" + (years - 1), came + 120 * years - 1, false);
            }
        }
        VillagePay x = new VillagePay();
        x.officer(0, 0);
        tests(x, "served=0", 0, true);
        tests(x, "served=9", 1199, true);
        VillagePay y = new VillagePay();
        Edges.goTo(y, 1199);
        y.officer(0, 0);
        tests(y, "served=0", 1199, true);
    }

    /** "season: SEASON of the DAY % 2". */
    private static void seasonOfTheDay() {
        VillagePay x = new VillagePay();
        x.officer(0, 0);
        int[][] want = {{0, 0}, {59, 0}, {60, 1}, {119, 1}, {120, 0}, {179, 0}, {180, 1}, {1139, 0}, {1140, 1}, {1199, 1}};
        for (int[] w : want) {
            tests(x, "season=0", w[0], w[1] == 0);
            tests(x, "season=1", w[0], w[1] == 1);
            tests(x, "season>1", w[0], false);
        }
    }

    /** "had: how many VILLAGES it holds on that DAY". */
    private static void hadHowManyVillages() {
        VillagePay x = new VillagePay();
        x.officer(0, 0);
        tests(x, "had=0", 5, true);
        for (int v = 0; v < 12; v++) {
            x.village(5, 0, 0);
            x.give(v, 0, 10 + v);
        }
        for (int n = 0; n <= 12; n++) {
            tests(x, "had=" + n, 9 + n, true);
            tests(x, "had>" + n, 9 + n, false);
            tests(x, "had<" + n, 9 + n, false);
        }
        x.give(3, -1, 40);
        tests(x, "had=12", 39, true);
        tests(x, "had=11", 40, true);
    }

    /** "An OFFICER is in FAMINE on a DAY if it holds a VILLAGE that is, in the SEASON of that DAY." */
    private static void famineOfTheDay() {
        VillagePay x = new VillagePay();
        x.officer(0, 0);
        for (int v = 0; v < 12; v++) {
            x.village(5, 0, 0);
            x.give(v, 0, 61 + v);
        }
        x.say(0, 11, 1, 1);
        tests(x, "famine", 119, false);
        x.say(4, 11, 1, 1);
        tests(x, "famine", 59, false);
        tests(x, "famine", 71, false);
        tests(x, "famine", 72, true);
        tests(x, "famine", 119, true);
        tests(x, "famine", 120, false);
        x.give(11, -1, 119);
        tests(x, "famine", 118, true);
        tests(x, "famine", 119, false);
        x.say(0, 0, 1, 1);
        x.say(1, 0, 1, 1);
        tests(x, "famine", 60, false);
        tests(x, "famine", 61, true);
        tests(x, "famine", 119, true);
    }

    // ---- promise 20

    /** "NONE: there is none such (of any), it did not serve on that DAY". */
    private static void scaleOfNoneSuch() {
        for (int officer : Edges.beside(0, 2)) {
            e.refused("scale(" + officer + ", 0, 0, 1)", TOWN, -1, x -> x.scale(officer, 0, 0, 1));
        }
        for (int day : Edges.beside(0, 1199)) {
            e.refused("scale(0, " + day + ", 0, 1)", TOWN, -1, x -> x.scale(0, day, 0, 1));
        }
        for (int k : Edges.beside(0, 130)) {
            e.refused("scale(0, 0, " + k + ", 1)", TOWN, -1, x -> x.scale(0, 0, k, 1));
        }
        e.answers("new: scale(0, 0, 0, 1)", NEW, -1, x -> x.scale(0, 0, 0, 1));
        e.answers("the last day, known on the first", TOWN, 12, x -> x.scale(0, 1199, 0, 1));
        e.answers("the first day, known now", TOWN, 12, x -> x.scale(0, 0, 130, 1));
        e.answers("the day ahead of its death", TOWN, 12, x -> x.scale(2, 69, 130, 1));
        e.answers("the day of its death", TOWN, -1, x -> x.scale(2, 70, 130, 1));
        Edges.Life late = x -> {
            x.days(100);
            x.officer(0, 0);
        };
        e.answers("the day ahead of its coming", late, -1, x -> x.scale(0, 99, 100, 1));
        e.answers("the day of its coming", late, 12, x -> x.scale(0, 100, 0, 1));
    }

    /** "NONE: [..] for another what." */
    private static void scaleForAnotherWhat() {
        for (int what : Edges.beside(0, 4)) {
            e.refused("scale(0, 60, 60, " + what + ")", TOWN, -1, x -> x.scale(0, 60, 60, what));
        }
        int[] want = {900, 12, 20, 110, 900};
        for (int what = 0; what < 5; what++) {
            int w = what;
            e.answers("scale(0, 90, 60, " + w + ")", TOWN, want[w], x -> x.scale(0, 90, 60, w));
        }
    }

    // ---- promise 21

    /** "NONE: there is none such (of any)." */
    private static void dueOfNoneSuch() {
        for (int officer : Edges.beside(0, 2)) {
            e.refused("due(" + officer + ", 0, 0)", TOWN, -1, x -> x.due(officer, 0, 0));
        }
        for (int season : Edges.beside(0, 19)) {
            e.refused("due(0, " + season + ", 0)", TOWN, -1, x -> x.due(0, season, 0));
        }
        for (int k : Edges.beside(0, 130)) {
            e.refused("due(0, 0, " + k + ")", TOWN, -1, x -> x.due(0, 0, k));
        }
        e.answers("new: due(0, 0, 0)", NEW, -1, x -> x.due(0, 0, 0));
        e.answers("the first season", TOWN, 150, x -> x.due(0, 0, 0));
        e.answers("the one that goes on", TOWN, 450, x -> x.due(0, 2, 130));
        e.answers("the last of all", TOWN, 450, x -> x.due(0, 19, 130));
    }

    /** "for each of its DAYS on which it served". */
    private static void dueByDaysOfService() {
        int[][] rows = {{0, 600}, {59, 600}, {60, 600}, {61, 590}, {119, 10}, {120, 0}};
        for (int[] row : rows) {
            VillagePay x = new VillagePay();
            Edges.goTo(x, row[0]);
            x.officer(0, 0);
            Checks.rules(x, 0, "pay 1200;");
            c.is("came on " + row[0], x.due(0, 1, 0), row[1]);
        }
        int[][] deaths = {{59, 0}, {60, 0}, {61, 10}, {119, 590}, {120, 600}, {121, 600}};
        for (int[] row : deaths) {
            VillagePay x = new VillagePay();
            x.officer(0, 0);
            Checks.rules(x, 0, "pay 1200;");
            Edges.goTo(x, row[0]);
            x.dies(0);
            c.is("died on " + row[0], x.due(0, 1, 0), row[1]);
        }
        VillagePay x = new VillagePay();
        x.days(70);
        x.officer(0, 0);
        Checks.rules(x, 0, "pay 1200;");
        x.dies(0);
        c.is("came and died on one day", x.due(0, 1, 70), 0);
    }

    private static int dueOf(int pay) {
        VillagePay x = new VillagePay();
        x.officer(0, 0);
        Checks.rules(x, 0, "pay " + pay + ";");
        return x.due(0, 0, 0);
    }

    /** "DUE for a year of that DAY, together, by 120, cut". */
    private static void dueIsCutOnce() {
        c.is("60 days of 1", dueOf(1), 0);
        c.is("60 days of 2", dueOf(2), 1);
        c.is("60 days of 3", dueOf(3), 1);
        c.is("60 days of 9999", dueOf(9999), 4999);
        VillagePay x = new VillagePay();
        x.days(59);
        x.officer(0, 0);
        Checks.rules(x, 0, "pay 119;");
        c.is("one day of 119", x.due(0, 0, 0), 0);
        VillagePay y = new VillagePay();
        y.days(59);
        y.officer(0, 0);
        Checks.rules(y, 0, "pay 120;");
        c.is("one day of 120", y.due(0, 0, 0), 1);
        VillagePay z = new VillagePay();
        z.officer(0, 0);
        Checks.rules(z, 0, "pay 9999;".repeat(16));
        c.is("the most of a season", z.due(0, 0, 0), 79992);
        VillagePay months = new VillagePay();
        months.days(1);
        months.officer(0, 0);
        Checks.rules(months, 0, "pay 74;months 1;");
        // a day's year is 6, cut: 59 * 6 / 120 is 2; uncut it would be 3
        c.is("59 days of 74 / 12", months.due(0, 0, 0), 2);
    }

    /** "for each of its DAYS [..] DUE for a year of that DAY": the first and the last day of a season, too. */
    private static void dueOfAllDays() {
        for (int day : new int[] {59, 60, 61, 119, 120}) {
            VillagePay x = new VillagePay();
            x.officer(0, 0);
            Checks.rules(x, 0, "pay 1200;");
            Checks.rules(x, day, "pay 2400;");
            int later = Math.max(0, Math.min(60, 120 - day));
            c.is("other rules from " + day, x.due(0, 1, 0), 600 + 10 * later);
            VillagePay y = new VillagePay();
            y.officer(0, 0);
            Checks.rules(y, 0, "pay 1200;if rank=9:pay 1200;");
            y.raise(0, 9, day);
            c.is("another rank from " + day, y.due(0, 1, 0), 600 + 10 * later);
            VillagePay z = new VillagePay();
            z.village(5, 0, 0);
            z.officer(0, 0);
            Checks.rules(z, 0, "pay 1200;if had=1:pay 1200;");
            z.give(0, 0, day);
            c.is("a village from " + day, z.due(0, 1, 0), 600 + 10 * later);
        }
        for (int came : new int[] {0, 1, 59, 60, 61}) {
            VillagePay x = new VillagePay();
            Edges.goTo(x, came);
            x.officer(0, 0);
            Checks.rules(x, 0, "if served=1:pay 1200;");
            c.is("a year since " + came + ", season 2", x.due(0, 2, 0), 10 * Math.max(0, 60 - came));
            c.is("a year since " + came + ", season 3", x.due(0, 3, 0), 10 * Math.min(60, 120 - came));
        }
        VillagePay x = new VillagePay();
        x.village(100, 0, 0);
        x.officer(0, 0);
        x.give(0, 0, 0);
        Checks.rules(x, 0, "if not famine:pay 1200;");
        x.say(0, 0, 1, 0);
        x.say(1, 0, 1, 0);
        c.is("the season ahead of a famine", x.due(0, 0, 0), 600);
        c.is("a famine", x.due(0, 1, 0), 0);
        c.is("the season behind it", x.due(0, 2, 0), 600);
        x.give(0, -1, 90);
        c.is("half a famine", x.due(0, 1, 0), 300);
    }

    // ---- promise 22

    /** "-1000000000: there is none such (of any)". */
    private static void balanceOfNoneSuch() {
        for (int officer : Edges.beside(0, 2)) {
            e.refused("balance(" + officer + ", 0, 0)", TOWN, NO_BALANCE, x -> x.balance(officer, 0, 0));
        }
        for (int season : Edges.beside(0, 19)) {
            e.refused("balance(0, " + season + ", 0)", TOWN, NO_BALANCE, x -> x.balance(0, season, 0));
        }
        for (int k : Edges.beside(0, 130)) {
            e.refused("balance(0, 0, " + k + ")", TOWN, NO_BALANCE, x -> x.balance(0, 0, k));
        }
        e.answers("new: balance(0, 0, 0)", NEW, NO_BALANCE, x -> x.balance(0, 0, 0));
        e.answers("the last officer", TOWN, -150, x -> x.balance(2, 0, 130));
        e.answers("the first officer", TOWN, 100, x -> x.balance(0, 0, 130));
    }

    /** "-1000000000: [..] it did not end." */
    private static void balanceOfOneThatDidNotEnd() {
        e.answers("the one that goes on", TOWN, NO_BALANCE, x -> x.balance(0, 2, 130));
        e.answers("the last of all", TOWN, NO_BALANCE, x -> x.balance(0, 19, 130));
        VillagePay x = new VillagePay();
        x.village(1200, 0, 0);
        x.officer(0, 0);
        x.give(0, 0, 0);
        Checks.rules(x, 0, "pay 1000;");
        for (int season = 0; season < 19; season++) {
            x.days(59);
            c.is("on the last day of season " + season, x.balance(0, season, 0), NO_BALANCE);
            x.days(1);
            c.is("on the day behind it", x.balance(0, season, 0), 100 * (season + 1));
        }
        x.days(59);
        c.is("on the last day of all", x.balance(0, 19, 0), NO_BALANCE);
    }

    /** "(SEASONS wholly ahead of its coming have none of both)". */
    private static void balanceOfSeasonsAheadOfItsComing() {
        for (int came : new int[] {119, 120, 121}) {
            VillagePay x = new VillagePay();
            x.village(1200, 0, 0);
            Checks.rules(x, 0, "pay 2400;crown 50;");
            x.days(came);
            x.officer(0, 0);
            x.give(0, 0, 0);
            Edges.goTo(x, 180);
            c.is("came on " + came + ": season 0", x.balance(0, 0, 180), 0);
            // the last day of season 1 has 10 coins, no part of THE CROWN, and 20 due
            c.is("came on " + came + ": season 1", x.balance(0, 1, 180), came == 119 ? -10 : 0);
            int third = came == 121 ? 590 - 1180 : 300 - 1200;
            c.is("came on " + came + ": season 2", x.balance(0, 2, 180), (came == 119 ? -10 : 0) + third);
        }
    }

    /** "of all SEASONS up to it, HAD less DUE, together". */
    private static void balanceIsOfAllSeasons() {
        VillagePay x = new VillagePay();
        x.village(9999, 0, 0);
        x.officer(0, 0);
        x.officer(0, 0);
        x.give(0, 0, 0);
        Checks.rules(x, 0, "if had=0:pay 9999;".repeat(16));
        for (int s = 0; s < 19; s++) {
            x.weather(s, 200);
        }
        Edges.goTo(x, 1199);
        c.is("had alone", x.balance(0, 18, 1199), 19 * 9999);
        c.is("due alone", x.balance(1, 18, 1199), -19 * 79992);
        c.is("the first season alone", x.balance(1, 0, 0), -79992);
    }
}
