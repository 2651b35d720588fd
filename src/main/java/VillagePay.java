import java.util.Arrays;

/** Officers paid by the tax of villages: the land, the book of orders, the rules, the news, and what follows. */
public final class VillagePay {
    public static final int NONE = -1;

    private static final int NO_SUCH = -2;
    private static final int NO_BALANCE = -1000000000;

    private static final int MAX_VILLAGES = 12;
    private static final int MAX_PAPER = 9999;
    private static final int MAX_PLACE = 50;
    private static final int FULL_HEALTH = 100;
    private static final int PLAIN = 100;
    private static final int MAX_WEATHER = 200;
    private static final int MIN_SQUEEZE = 50;
    private static final int MAX_SQUEEZE = 150;

    private static final int DAYS = 1200;
    private static final int SEASON_DAYS = 60;
    private static final int YEAR_DAYS = 120;
    private static final int SEASONS = 20;
    private static final int MAX_STEP = 200;

    private static final int MAX_OFFICERS = 10;
    private static final int MAX_DIGIT = 9;
    private static final int MAX_ORDERS = 100;
    private static final int OF_VILLAGE = 0;
    private static final int OF_RANK = 1;

    private static final int TAPE_SIZE = 500;
    private static final int FED_BYTES = 20;
    private static final int MAX_REIGNS = 4;
    private static final int MAX_LINES = 16;
    private static final int MAX_TESTS = 4;
    private static final int MAX_DIGITS = 4;
    private static final int MONTHS = 12;

    private static final int DEALT_OFFICERS = 3;
    private static final int DEALT_VILLAGES = 7;
    /** Seven villages, each to one of three or to none. */
    private static final int MOST_WAYS = 16384;
    /** Above any gap that can be. */
    private static final int NO_GAP = 1000000000;
    private static final int MAX_MOVES = 12;

    private static final int WRITERS = 5;
    private static final int MAX_WORDS = 100;
    private static final int MAX_COINS = 9999;
    private static final int NEW_TRUST = 50;

    private static final int IMAGES = 3;

    private static final int FAULT_FORM = 1;
    private static final int FAULT_NUMBER = 2;
    private static final int FAULT_MANY = 3;

    /** The words of the rules; a word's token is its place in this row. */
    private static final String WORDS =
        "if and not pay less months crown take stop famine rank served kin season had ";
    private static final int IF = 0;
    private static final int AND = 1;
    private static final int NOT = 2;
    private static final int PAY = 3;
    private static final int LESS = 4;
    private static final int MONTHS_ARE = 5;
    private static final int CROWN = 6;
    private static final int TAKE = 7;
    private static final int STOP = 8;
    private static final int FAMINE = 9;
    private static final int RANK = 10;
    private static final int SERVED = 11;
    private static final int KIN = 12;
    private static final int SEASON = 13;
    private static final int HAD = 14;
    /** Tokens that are no words: clear of the words' places and of the signs, which are their own bytes. */
    private static final int TAPE_END = 100;
    private static final int NO_TOKEN = 101;
    private static final int NUMBER = 102;

    private final State now = new State();
    private final State[] images = new State[IMAGES];
    private final Reader reader = new Reader(now.tape, now.laws);
    private final Scale scale = new Scale(now);
    private final Accounts accounts = new Accounts(now, scale);
    private final Dealer dealer = new Dealer(now, scale);
    private final Land land = now.land;
    private final Book book = now.book;
    private final News news = now.news;
    private final Moves moves = now.moves;

    public VillagePay() {
    }

    // ---- the land

    public int village(int paper, int x, int y) {
        boolean good = isWithin(paper, 1, MAX_PAPER) && isWithin(x, 0, MAX_PLACE) && isWithin(y, 0, MAX_PLACE);
        if (!good || land.villages >= MAX_VILLAGES) {
            return NONE;
        }
        return land.settle(paper, x, y);
    }

    public boolean weather(int season, int percent) {
        boolean open = isSeason(season) && !hasEnded(season);
        if (!open || !isWithin(percent, 0, MAX_WEATHER)) {
            return false;
        }
        land.sky[season] = percent;
        return true;
    }

    public boolean squeeze(int village, int percent) {
        if (!isVillage(village) || !isWithin(percent, MIN_SQUEEZE, MAX_SQUEEZE)) {
            return false;
        }
        land.press[village] = percent;
        return true;
    }

    public int days(int n) {
        if (!isWithin(n, 1, MAX_STEP) || land.today + n >= DAYS) {
            return NONE;
        }
        land.passDays(n);
        return land.today;
    }

    public int come(int village, int season) {
        if (!isVillage(village) || !isSeason(season) || !hasEnded(season)) {
            return NONE;
        }
        return land.coins[village * SEASONS + season];
    }

    public int about(int village, int what) {
        if (!isVillage(village)) {
            return NO_SUCH;
        }
        switch (what) {
            case 0: return land.worth[village];
            case 1: return land.east[village];
            case 2: return land.north[village];
            case 3: return land.health[village];
            case 4: return land.press[village];
            case 5: return now.holderToday(village);
            case 6: return isOver(village) ? 1 : 0;
            default: return NO_SUCH;
        }
    }

    // ---- officers and the book

    public int officer(int rank, int kin) {
        boolean good = isWithin(rank, 0, MAX_DIGIT) && isWithin(kin, 0, MAX_DIGIT);
        if (!good || book.officers >= MAX_OFFICERS) {
            return NONE;
        }
        return book.enlist(rank, kin, land.today);
    }

    public boolean dies(int officer) {
        if (!isOfficer(officer) || book.death[officer] < DAYS) {
            return false;
        }
        book.death[officer] = land.today;
        return true;
    }

    public int give(int village, int officer, int day) {
        boolean good = isVillage(village) && (officer == NONE || isOfficer(officer)) && isDay(day);
        if (!good || book.orders >= MAX_ORDERS) {
            return NONE;
        }
        return book.write(OF_VILLAGE, village, officer, day, land.today);
    }

    public int raise(int officer, int rank, int day) {
        boolean good = isOfficer(officer) && isWithin(rank, 0, MAX_DIGIT) && isDay(day);
        if (!good || book.orders >= MAX_ORDERS) {
            return NONE;
        }
        return book.write(OF_RANK, rank, officer, day, land.today);
    }

    public int order(int order, int what) {
        if (order < 0 || order >= book.orders) {
            return NO_SUCH;
        }
        switch (what) {
            case 0: return book.kind[order];
            case 1: return book.thing[order];
            case 2: return book.who[order];
            case 3: return book.from[order];
            case 4: return book.written[order];
            default: return NO_SUCH;
        }
    }

    public int holder(int village, int day, int k) {
        if (!isVillage(village) || !isDay(day) || !isKnownDay(k)) {
            return NO_SUCH;
        }
        return book.holderOn(village, day, k);
    }

    public int rank(int officer, int day, int k) {
        if (!isOfficer(officer) || !isDay(day) || !isKnownDay(k) || !book.serves(officer, day)) {
            return NONE;
        }
        return book.rankOn(officer, day, k);
    }

    public int had(int officer, int season, int k) {
        if (!isOfficer(officer) || !isSeason(season) || !isKnownDay(k) || !hasEnded(season)) {
            return NONE;
        }
        return accounts.hadIn(officer, season, k);
    }

    // ---- the tape and the rules

    public int feed(int a, int b, int c, int d, int e) {
        if (now.tape.length + FED_BYTES > TAPE_SIZE) {
            return NONE;
        }
        now.tape.putNumber(a);
        now.tape.putNumber(b);
        now.tape.putNumber(c);
        now.tape.putNumber(d);
        now.tape.putNumber(e);
        return now.tape.length;
    }

    public int end(int n) {
        if (n < 0 || n > now.tape.length) {
            return NONE;
        }
        now.tape.length = n;
        return n;
    }

    public int reign(int day) {
        int answer = NO_SUCH;
        now.tape.clearFault();
        if (isDay(day) && now.laws.canBegin(day)) {
            answer = reader.readReign(day);
        }
        now.tape.length = 0;
        return answer;
    }

    public int fault(int what) {
        switch (what) {
            case 0: return now.tape.fault;
            case 1: return now.tape.place;
            default: return NONE;
        }
    }

    public int scale(int officer, int day, int k, int what) {
        if (!isOfficer(officer) || !isDay(day) || !isKnownDay(k) || !book.serves(officer, day)) {
            return NONE;
        }
        scale.reckon(officer, day, k);
        switch (what) {
            case 0: return scale.pay;
            case 1: return scale.months;
            case 2: return scale.crown;
            case 3: return scale.take;
            case 4: return scale.yearly();
            default: return NONE;
        }
    }

    public int due(int officer, int season, int k) {
        if (!isOfficer(officer) || !isSeason(season) || !isKnownDay(k)) {
            return NONE;
        }
        return accounts.dueIn(officer, season, k);
    }

    public int balance(int officer, int season, int k) {
        if (!isOfficer(officer) || !isSeason(season) || !isKnownDay(k) || !hasEnded(season)) {
            return NO_BALANCE;
        }
        return accounts.balanceUpTo(officer, season, k);
    }

    // ---- villages for officers

    public int fit(int officer, int e) {
        if (!servesToday(officer) || !isWithin(e, 0, MAX_COINS)) {
            return NONE;
        }
        return dealer.fitFor(officer, e);
    }

    public int near(int villages) {
        return land.nearOf(villages);
    }

    public int deal(int officers, boolean best) {
        if (!canBeDealtTo(officers)) {
            return NONE;
        }
        dealer.share(officers, best);
        return dealer.leastGap;
    }

    public int dealt(int officers, boolean best, int village) {
        if (!canBeDealtTo(officers)) {
            return NONE;
        }
        dealer.share(officers, best);
        return dealer.receiverOf(village);
    }

    public int move(int officer, int village) {
        boolean good = servesToday(officer) && isVillage(village);
        if (!good || moves.size >= MAX_MOVES || moves.hasEither(officer, village)) {
            return NONE;
        }
        return moves.plan(officer, village);
    }

    public void stay() {
        moves.size = 0;
    }

    public int idle() {
        moves.reckonRow(book, land.villages, land.today);
        return moves.idlers;
    }

    public int moved(int place) {
        if (place < 0 || place >= moves.size) {
            return NONE;
        }
        moves.reckonRow(book, land.villages, land.today);
        return moves.row[place];
    }

    // ---- the news

    public int say(int writer, int village, int season, int coins) {
        boolean good = isWriter(writer) && isVillage(village) && isSeason(season) && isWithin(coins, 0, MAX_COINS);
        if (!good || news.words >= MAX_WORDS) {
            return NONE;
        }
        return news.write(writer, village, season, coins, land.today);
    }

    public int trust(int writer, int k) {
        if (!isWriter(writer) || !isKnownDay(k)) {
            return NONE;
        }
        return news.trustIn(writer, k);
    }

    public int weighed(int village, int season, int k) {
        if (!isVillage(village) || !isSeason(season) || !isKnownDay(k)) {
            return NONE;
        }
        return news.weigh(village, season, k);
    }

    public boolean famine(int village, int season, int k) {
        return isVillage(village) && isSeason(season) && isKnownDay(k) && news.isProven(village, season, k);
    }

    public int tried(int paper, int n, int t, int s, int what) {
        boolean good = isWithin(paper, 1, MAX_PAPER) && isWithin(n, 1, SEASONS) && isWithin(t, 0, SEASONS)
            && isWithin(s, MIN_SQUEEZE, MAX_SQUEEZE) && isWithin(what, 0, 2);
        return good ? land.tryRule(paper, n, t, s, what) : NONE;
    }

    // ---- the whole

    public int count(int what) {
        switch (what) {
            case 0: return land.villages;
            case 1: return book.officers;
            case 2: return book.orders;
            case 3: return now.laws.reigns;
            case 4: return land.today;
            case 5: return land.today / SEASON_DAYS;
            case 6: return moves.size;
            case 7: return news.words;
            case 8: return countServing();
            case 9: return countOfCrown();
            case 10: return countOver();
            default: return NONE;
        }
    }

    public boolean image(int k) {
        if (!isWithin(k, 0, IMAGES - 1)) {
            return false;
        }
        // An image is made once and written over later, so that many images need no more room than three.
        if (images[k] == null) {
            images[k] = new State();
        }
        images[k].copyFrom(now);
        return true;
    }

    public boolean again(int k) {
        if (!isWithin(k, 0, IMAGES - 1) || images[k] == null) {
            return false;
        }
        now.copyFrom(images[k]);
        return true;
    }

    // ---- what arguments may be

    private static boolean isWithin(int n, int least, int most) {
        return n >= least && n <= most;
    }

    private static boolean isDay(int day) {
        return isWithin(day, 0, DAYS - 1);
    }

    private static boolean isSeason(int season) {
        return isWithin(season, 0, SEASONS - 1);
    }

    private static boolean isWriter(int writer) {
        return isWithin(writer, 0, WRITERS - 1);
    }

    private boolean isVillage(int village) {
        return isWithin(village, 0, land.villages - 1);
    }

    private boolean isOfficer(int officer) {
        return isWithin(officer, 0, book.officers - 1);
    }

    private boolean isKnownDay(int k) {
        return isWithin(k, 0, land.today);
    }

    private boolean hasEnded(int season) {
        return season < land.today / SEASON_DAYS;
    }

    private boolean servesToday(int officer) {
        return isOfficer(officer) && book.serves(officer, land.today);
    }

    private boolean canBeDealtTo(int officers) {
        if (officers >>> MAX_OFFICERS != 0) {
            return false;
        }
        int people = 0;
        for (int officer = 0; officer < MAX_OFFICERS; officer++) {
            if ((officers >> officer & 1) != 0) {
                if (!servesToday(officer)) {
                    return false;
                }
                people++;
            }
        }
        return isWithin(people, 1, DEALT_OFFICERS);
    }

    private boolean isOver(int village) {
        int officer = now.holderToday(village);
        if (officer == NONE) {
            return false;
        }
        scale.reckon(officer, land.today, land.today);
        return land.press[village] > scale.take;
    }

    private int countServing() {
        int n = 0;
        for (int officer = 0; officer < book.officers; officer++) {
            if (book.serves(officer, land.today)) {
                n++;
            }
        }
        return n;
    }

    private int countOfCrown() {
        int n = 0;
        for (int village = 0; village < land.villages; village++) {
            if (now.holderToday(village) == NONE) {
                n++;
            }
        }
        return n;
    }

    private int countOver() {
        int n = 0;
        for (int village = 0; village < land.villages; village++) {
            if (isOver(village)) {
                n++;
            }
        }
        return n;
    }

    /** All that is told: what an image keeps. */
    private static final class State {
        final Land land = new Land();
        final Book book = new Book();
        final Laws laws = new Laws();
        final Tape tape = new Tape();
        final News news = new News(land);
        final Moves moves = new Moves();

        int holderToday(int village) {
            return book.holderOn(village, land.today, land.today);
        }

        void copyFrom(State other) {
            land.copyFrom(other.land);
            book.copyFrom(other.book);
            laws.copyFrom(other.laws);
            tape.copyFrom(other.tape);
            news.copyFrom(other.news);
            moves.copyFrom(other.moves);
        }
    }

    /** The day, the weather, the villages and what they gave. */
    private static final class Land {
        int today;
        int villages;
        final int[] worth = new int[MAX_VILLAGES];
        final int[] east = new int[MAX_VILLAGES];
        final int[] north = new int[MAX_VILLAGES];
        final int[] health = new int[MAX_VILLAGES];
        final int[] press = new int[MAX_VILLAGES];
        final int[] coins = new int[MAX_VILLAGES * SEASONS];
        final int[] sky = new int[SEASONS];

        Land() {
            Arrays.fill(sky, PLAIN);
        }

        int settle(int paper, int x, int y) {
            int village = villages;
            worth[village] = paper;
            east[village] = x;
            north[village] = y;
            health[village] = FULL_HEALTH;
            press[village] = PLAIN;
            villages++;
            return village;
        }

        void passDays(int n) {
            int season = today / SEASON_DAYS;
            today += n;
            for (; season < today / SEASON_DAYS; season++) {
                endSeason(season);
            }
        }

        private void endSeason(int season) {
            for (int village = 0; village < villages; village++) {
                coins[village * SEASONS + season] = crop(worth[village], health[village], sky[season], press[village]);
                health[village] = healthAfter(health[village], press[village]);
            }
        }

        private static int crop(int paper, int health, int percent, int press) {
            return paper * health / 100 * percent / 100 * press / 100 / 2;
        }

        private static int healthAfter(int health, int press) {
            int next = press > PLAIN ? health - (press - PLAIN) / 5 : health + 3;
            return Math.max(0, Math.min(FULL_HEALTH, next));
        }

        int paperOf(int set) {
            int paper = 0;
            for (int village = 0; village < villages; village++) {
                if ((set >> village & 1) != 0) {
                    paper += worth[village];
                }
            }
            return paper;
        }

        int nearOf(int set) {
            int apart = 0;
            for (int a = 0; a < villages; a++) {
                if ((set >> a & 1) == 0) {
                    continue;
                }
                for (int b = a + 1; b < villages; b++) {
                    if ((set >> b & 1) != 0) {
                        apart += Math.abs(east[a] - east[b]) + Math.abs(north[a] - north[b]);
                    }
                }
            }
            return apart;
        }

        int tryRule(int paper, int n, int t, int s, int what) {
            int vigour = FULL_HEALTH;
            int paid = 0;
            int crown = 0;
            for (int season = 0; season < n; season++) {
                int force = t > 0 && season % t == t - 1 ? s : PLAIN;
                int got = crop(paper, vigour, sky[season], force);
                int share = t > 0 ? got : Math.min(got, paper * s / 200);
                paid += share;
                crown += got - share;
                vigour = healthAfter(vigour, force);
            }
            return what == 0 ? paid : what == 1 ? vigour : crown;
        }

        void copyFrom(Land other) {
            today = other.today;
            villages = other.villages;
            System.arraycopy(other.worth, 0, worth, 0, MAX_VILLAGES);
            System.arraycopy(other.east, 0, east, 0, MAX_VILLAGES);
            System.arraycopy(other.north, 0, north, 0, MAX_VILLAGES);
            System.arraycopy(other.health, 0, health, 0, MAX_VILLAGES);
            System.arraycopy(other.press, 0, press, 0, MAX_VILLAGES);
            System.arraycopy(other.coins, 0, coins, 0, MAX_VILLAGES * SEASONS);
            System.arraycopy(other.sky, 0, sky, 0, SEASONS);
        }
    }

    /** The officers and the orders, in the row in which they were written. */
    private static final class Book {
        int officers;
        final int[] firstRank = new int[MAX_OFFICERS];
        final int[] kin = new int[MAX_OFFICERS];
        final int[] came = new int[MAX_OFFICERS];
        final int[] death = new int[MAX_OFFICERS];
        int orders;
        final int[] kind = new int[MAX_ORDERS];
        final int[] thing = new int[MAX_ORDERS];
        final int[] who = new int[MAX_ORDERS];
        final int[] from = new int[MAX_ORDERS];
        final int[] written = new int[MAX_ORDERS];

        int enlist(int rank, int family, int day) {
            int officer = officers;
            firstRank[officer] = rank;
            kin[officer] = family;
            came[officer] = day;
            // One who lives on dies behind the last day of all.
            death[officer] = DAYS;
            officers++;
            return officer;
        }

        int write(int orderKind, int villageOrRank, int officer, int day, int today) {
            int order = orders;
            kind[order] = orderKind;
            thing[order] = villageOrRank;
            who[order] = officer;
            from[order] = day;
            written[order] = today;
            orders++;
            return order;
        }

        boolean serves(int officer, int day) {
            return came[officer] <= day && day < death[officer];
        }

        int holderOn(int village, int day, int k) {
            int order = latestOrder(OF_VILLAGE, village, day, k);
            int officer = order == NONE ? NONE : who[order];
            return officer != NONE && serves(officer, day) ? officer : NONE;
        }

        int rankOn(int officer, int day, int k) {
            int order = latestOrder(OF_RANK, officer, day, k);
            return order == NONE ? firstRank[officer] : thing[order];
        }

        /** An order of a village is for that village, an order of a rank for that officer. */
        private int latestOrder(int orderKind, int about, int day, int k) {
            int latest = NONE;
            for (int order = 0; order < orders; order++) {
                if (kind[order] != orderKind || from[order] > day || written[order] > k) {
                    continue;
                }
                int subject = orderKind == OF_VILLAGE ? thing[order] : who[order];
                if (subject == about && (latest == NONE || from[order] >= from[latest])) {
                    latest = order;
                }
            }
            return latest;
        }

        boolean wasEverOfKin(int village, int family) {
            for (int order = 0; order < orders; order++) {
                boolean given = kind[order] == OF_VILLAGE && thing[order] == village && who[order] != NONE;
                if (given && kin[who[order]] == family) {
                    return true;
                }
            }
            return false;
        }

        void copyFrom(Book other) {
            officers = other.officers;
            System.arraycopy(other.firstRank, 0, firstRank, 0, MAX_OFFICERS);
            System.arraycopy(other.kin, 0, kin, 0, MAX_OFFICERS);
            System.arraycopy(other.came, 0, came, 0, MAX_OFFICERS);
            System.arraycopy(other.death, 0, death, 0, MAX_OFFICERS);
            orders = other.orders;
            System.arraycopy(other.kind, 0, kind, 0, MAX_ORDERS);
            System.arraycopy(other.thing, 0, thing, 0, MAX_ORDERS);
            System.arraycopy(other.who, 0, who, 0, MAX_ORDERS);
            System.arraycopy(other.from, 0, from, 0, MAX_ORDERS);
            System.arraycopy(other.written, 0, written, 0, MAX_ORDERS);
        }
    }

    /** The bytes that came, and what the latest reading found wrong in them. */
    private static final class Tape {
        final byte[] bytes = new byte[TAPE_SIZE];
        int length;
        int fault;
        int place = NONE;

        void putNumber(int n) {
            for (int shift = 24; shift >= 0 && length < TAPE_SIZE; shift -= 8) {
                bytes[length] = (byte) (n >> shift);
                length++;
            }
        }

        void clearFault() {
            fault = 0;
            place = NONE;
        }

        void copyFrom(Tape other) {
            length = other.length;
            fault = other.fault;
            place = other.place;
            System.arraycopy(other.bytes, 0, bytes, 0, TAPE_SIZE);
        }
    }

    /** The rules of each reign; line n of reign r stands at r * MAX_LINES + n, its tests at MAX_TESTS times that. */
    private static final class Laws {
        int reigns;
        final int[] begins = new int[MAX_REIGNS];
        final int[] lines = new int[MAX_REIGNS];
        final int[] deed = new int[MAX_REIGNS * MAX_LINES];
        final int[] amount = new int[MAX_REIGNS * MAX_LINES];
        final int[] tests = new int[MAX_REIGNS * MAX_LINES];
        final int[] subject = new int[MAX_REIGNS * MAX_LINES * MAX_TESTS];
        final int[] sign = new int[MAX_REIGNS * MAX_LINES * MAX_TESTS];
        final int[] limit = new int[MAX_REIGNS * MAX_LINES * MAX_TESTS];
        final boolean[] negated = new boolean[MAX_REIGNS * MAX_LINES * MAX_TESTS];

        boolean canBegin(int day) {
            return reigns < MAX_REIGNS && (reigns == 0 || day > begins[reigns - 1]);
        }

        int reignOn(int day) {
            int reign = NONE;
            for (int r = 0; r < reigns; r++) {
                if (begins[r] <= day) {
                    reign = r;
                }
            }
            return reign;
        }

        void copyFrom(Laws other) {
            reigns = other.reigns;
            System.arraycopy(other.begins, 0, begins, 0, MAX_REIGNS);
            System.arraycopy(other.lines, 0, lines, 0, MAX_REIGNS);
            int used = reigns * MAX_LINES;
            System.arraycopy(other.deed, 0, deed, 0, used);
            System.arraycopy(other.amount, 0, amount, 0, used);
            System.arraycopy(other.tests, 0, tests, 0, used);
            int usedTests = used * MAX_TESTS;
            System.arraycopy(other.subject, 0, subject, 0, usedTests);
            System.arraycopy(other.sign, 0, sign, 0, usedTests);
            System.arraycopy(other.limit, 0, limit, 0, usedTests);
            for (int test = 0; test < usedTests; test++) {
                negated[test] = other.negated[test];
            }
        }
    }

    /**
     * Reads the tape into the laws. A reading method answers false as soon as the token at hand fits no text;
     * that token then stays at hand, so that its start is the fault's place.
     */
    private static final class Reader {
        private final Tape tape;
        private final Laws laws;
        private int at;
        private int token;
        private int start;
        private int number;
        private int linesRead;

        Reader(Tape tape, Laws laws) {
            this.tape = tape;
            this.laws = laws;
        }

        /** Lines go straight to the next reign's room, which counts only if nothing was wrong. */
        int readReign(int day) {
            int reign = laws.reigns;
            at = 0;
            linesRead = 0;
            readToken();
            boolean goesOn = true;
            for (int line = 0; line <= TAPE_SIZE && goesOn && token != TAPE_END; line++) {
                goesOn = readLine(reign * MAX_LINES + line);
            }
            if (!goesOn) {
                // This kind goes ahead of the others, even of one that was found at an earlier place.
                tape.clearFault();
                remark(FAULT_FORM);
            }
            if (tape.fault != 0) {
                return NONE;
            }
            laws.begins[reign] = day;
            laws.lines[reign] = linesRead;
            laws.reigns++;
            return linesRead;
        }

        private void remark(int fault) {
            if (tape.fault == 0) {
                tape.fault = fault;
                tape.place = start;
            }
        }

        private boolean readLine(int line) {
            boolean kept = linesRead < MAX_LINES;
            if (!kept) {
                remark(FAULT_MANY);
            }
            linesRead++;
            if (kept) {
                laws.tests[line] = 0;
            }
            if (token == IF && !readTests(line, kept)) {
                return false;
            }
            return readDeed(line, kept) && pass(';');
        }

        private boolean readTests(int line, boolean kept) {
            int n = 0;
            do {
                readToken();
                boolean room = n < MAX_TESTS;
                if (!room) {
                    remark(FAULT_MANY);
                }
                if (!readTest(line * MAX_TESTS + n, kept && room)) {
                    return false;
                }
                n++;
            } while (token == AND && n <= TAPE_SIZE);
            if (kept) {
                laws.tests[line] = Math.min(n, MAX_TESTS);
            }
            return pass(':');
        }

        private boolean readTest(int test, boolean kept) {
            boolean not = token == NOT;
            if (not) {
                readToken();
            }
            int subject = token;
            int sign = '=';
            if (subject < FAMINE || subject > HAD) {
                return false;
            }
            readToken();
            if (subject != FAMINE) {
                sign = token;
                if (sign != '<' && sign != '>' && sign != '=') {
                    return false;
                }
                readToken();
                if (token != NUMBER) {
                    return false;
                }
            }
            if (kept) {
                laws.negated[test] = not;
                laws.subject[test] = subject;
                laws.sign[test] = sign;
                laws.limit[test] = number;
            }
            if (subject != FAMINE) {
                readToken();
            }
            return true;
        }

        private boolean readDeed(int line, boolean kept) {
            int deed = token;
            if (deed < PAY || deed > STOP) {
                return false;
            }
            readToken();
            if (kept) {
                laws.deed[line] = deed;
            }
            if (deed == STOP) {
                return true;
            }
            if (token != NUMBER) {
                return false;
            }
            if (!isFitNumber(deed)) {
                remark(FAULT_NUMBER);
            }
            if (kept) {
                laws.amount[line] = number;
            }
            readToken();
            return true;
        }

        private boolean isFitNumber(int deed) {
            switch (deed) {
                case LESS:
                case CROWN: return number <= 100;
                case MONTHS_ARE: return number >= 1 && number <= MONTHS;
                case TAKE: return number >= MIN_SQUEEZE && number <= MAX_SQUEEZE;
                default: return true;
            }
        }

        private boolean pass(int wanted) {
            if (token != wanted) {
                return false;
            }
            readToken();
            return true;
        }

        private void readToken() {
            while (at < tape.length && (tape.bytes[at] == 10 || tape.bytes[at] == 32)) {
                at++;
            }
            start = at;
            if (at >= tape.length) {
                token = TAPE_END;
                return;
            }
            int sign = tape.bytes[at];
            if (sign >= 'a' && sign <= 'z') {
                readWord();
            } else if (sign >= '0' && sign <= '9') {
                readNumber();
            } else {
                boolean known = sign == ':' || sign == ';' || sign == '<' || sign == '>' || sign == '=';
                token = known ? sign : NO_TOKEN;
                at++;
            }
        }

        private void readNumber() {
            number = 0;
            while (at < tape.length && tape.bytes[at] >= '0' && tape.bytes[at] <= '9') {
                // Only the first digits count, since a longer row is refused whatever it is worth.
                if (at - start < MAX_DIGITS) {
                    number = number * 10 + tape.bytes[at] - '0';
                }
                at++;
            }
            token = at - start <= MAX_DIGITS ? NUMBER : NO_TOKEN;
        }

        private void readWord() {
            while (at < tape.length && tape.bytes[at] >= 'a' && tape.bytes[at] <= 'z') {
                at++;
            }
            int size = at - start;
            int word = 0;
            int matched = 0;
            int letter = 0;
            token = NO_TOKEN;
            for (int i = 0; i < WORDS.length() && token == NO_TOKEN; i++) {
                char c = WORDS.charAt(i);
                if (c != ' ') {
                    if (letter < size && tape.bytes[start + letter] == c) {
                        matched++;
                    }
                    letter++;
                } else {
                    if (letter == size && matched == size) {
                        token = word;
                    }
                    word++;
                    matched = 0;
                    letter = 0;
                }
            }
        }
    }

    /** What the rules of a day grant an officer. */
    private static final class Scale {
        private final State state;
        int pay;
        int months;
        int crown;
        int take;
        private int rank;
        private int served;
        private int family;
        private int half;
        private int held;
        private boolean starving;

        Scale(State state) {
            this.state = state;
        }

        void reckon(int officer, int day, int k) {
            pay = 0;
            months = MONTHS;
            crown = 0;
            take = MAX_SQUEEZE;
            Laws laws = state.laws;
            int reign = laws.reignOn(day);
            if (reign == NONE) {
                return;
            }
            lookAt(officer, day, k);
            int first = reign * MAX_LINES;
            for (int line = first; line < first + laws.lines[reign]; line++) {
                if (allHold(line)) {
                    if (laws.deed[line] == STOP) {
                        return;
                    }
                    obey(laws.deed[line], laws.amount[line]);
                }
            }
        }

        int yearly() {
            return pay * months / MONTHS;
        }

        private void lookAt(int officer, int day, int k) {
            Book book = state.book;
            rank = book.rankOn(officer, day, k);
            served = (day - book.came[officer]) / YEAR_DAYS;
            family = book.kin[officer];
            half = day / SEASON_DAYS % 2;
            held = 0;
            starving = false;
            for (int village = 0; village < state.land.villages; village++) {
                if (book.holderOn(village, day, k) == officer) {
                    held++;
                    starving = starving || state.news.isProven(village, day / SEASON_DAYS, k);
                }
            }
        }

        private boolean allHold(int line) {
            Laws laws = state.laws;
            int first = line * MAX_TESTS;
            for (int test = first; test < first + laws.tests[line]; test++) {
                boolean holds = laws.subject[test] == FAMINE ? starving
                    : compares(measure(laws.subject[test]), laws.sign[test], laws.limit[test]);
                if (holds == laws.negated[test]) {
                    return false;
                }
            }
            return true;
        }

        private int measure(int subject) {
            switch (subject) {
                case RANK: return rank;
                case SERVED: return served;
                case KIN: return family;
                case SEASON: return half;
                default: return held;
            }
        }

        private static boolean compares(int n, int sign, int limit) {
            return sign == '<' ? n < limit : sign == '>' ? n > limit : n == limit;
        }

        private void obey(int deed, int amount) {
            switch (deed) {
                case PAY:
                    pay += amount;
                    break;
                case LESS:
                    pay -= pay * amount / 100;
                    break;
                case MONTHS_ARE:
                    months = amount;
                    break;
                case CROWN:
                    crown = amount;
                    break;
                default:
                    take = amount;
                    break;
            }
        }
    }

    /** What an officer had and what was due to it, season by season. */
    private static final class Accounts {
        private final State state;
        private final Scale scale;
        private final boolean[] turning = new boolean[SEASON_DAYS];

        Accounts(State state, Scale scale) {
            this.state = state;
            this.scale = scale;
        }

        int hadIn(int officer, int season, int k) {
            int first = season * SEASON_DAYS;
            int percent = 0;
            if (state.book.serves(officer, first)) {
                scale.reckon(officer, first, k);
                percent = scale.crown;
            }
            markTurns(officer, first);
            int total = 0;
            for (int village = 0; village < state.land.villages; village++) {
                int coins = state.land.coins[village * SEASONS + season];
                coins -= coins * percent / 100;
                total += coins * daysHeld(village, officer, first, k) / SEASON_DAYS;
            }
            return total;
        }

        int dueIn(int officer, int season, int k) {
            int first = season * SEASON_DAYS;
            markTurns(officer, first);
            int yearly = 0;
            int total = 0;
            for (int i = 0; i < SEASON_DAYS; i++) {
                int day = first + i;
                if (turning[i] && state.book.serves(officer, day)) {
                    scale.reckon(officer, day, k);
                    yearly = scale.yearly();
                } else if (turning[i]) {
                    yearly = 0;
                }
                total += yearly;
            }
            return total / YEAR_DAYS;
        }

        int balanceUpTo(int officer, int season, int k) {
            int total = 0;
            for (int s = 0; s <= season; s++) {
                total += hadIn(officer, s, k) - dueIn(officer, s, k);
            }
            return total;
        }

        private int daysHeld(int village, int officer, int first, int k) {
            boolean holds = false;
            int days = 0;
            for (int i = 0; i < SEASON_DAYS; i++) {
                if (turning[i]) {
                    holds = state.book.holderOn(village, first + i, k) == officer;
                }
                if (holds) {
                    days++;
                }
            }
            return days;
        }

        /** Between two such days nothing about the officer changes, so that most days need no new reckoning. */
        private void markTurns(int officer, int first) {
            Book book = state.book;
            for (int i = 0; i < SEASON_DAYS; i++) {
                turning[i] = i == 0 || (first + i - book.came[officer]) % YEAR_DAYS == 0;
            }
            for (int order = 0; order < book.orders; order++) {
                markTurn(book.from[order] - first);
            }
            for (int reign = 0; reign < state.laws.reigns; reign++) {
                markTurn(state.laws.begins[reign] - first);
            }
            markTurn(book.death[officer] - first);
        }

        private void markTurn(int i) {
            if (i >= 0 && i < SEASON_DAYS) {
                turning[i] = true;
            }
        }
    }

    /** Which villages of the crown would pay an officer, or some officers, best. */
    private static final class Dealer {
        private final State state;
        private final Scale scale;
        private final int[] person = new int[DEALT_OFFICERS];
        private final int[] lacks = new int[DEALT_OFFICERS];
        private int people;
        private final int[] lot = new int[DEALT_VILLAGES];
        private final int[] choice = new int[DEALT_VILLAGES];
        private final int[] bestChoice = new int[DEALT_VILLAGES];
        private int lots;
        int leastGap;

        Dealer(State state, Scale scale) {
            this.state = state;
            this.scale = scale;
        }

        int fitFor(int officer, int e) {
            Land land = state.land;
            scale.reckon(officer, land.today, land.today);
            int wanted = scale.yearly();
            int open = openTo(officer);
            int best = NONE;
            int bestApart = e;
            int bestNear = 0;
            for (int set = 1; set <= open; set++) {
                if ((set & ~open) != 0) {
                    continue;
                }
                int apart = Math.abs(land.paperOf(set) - wanted);
                if (apart > bestApart) {
                    continue;
                }
                int near = land.nearOf(set);
                if (best == NONE || apart < bestApart || near < bestNear) {
                    best = set;
                    bestApart = apart;
                    bestNear = near;
                }
            }
            return best;
        }

        private int openTo(int officer) {
            int open = 0;
            int family = state.book.kin[officer];
            for (int village = 0; village < state.land.villages; village++) {
                if (state.holderToday(village) == NONE && !state.book.wasEverOfKin(village, family)) {
                    open |= 1 << village;
                }
            }
            return open;
        }

        void share(int officers, boolean best) {
            gatherPeople(officers);
            gatherLots();
            leastGap = NO_GAP;
            if (best) {
                tryAllWays();
            } else {
                dealByRule();
                keepIfLess();
            }
        }

        int receiverOf(int village) {
            for (int i = 0; i < lots; i++) {
                if (lot[i] == village && bestChoice[i] < people) {
                    return person[bestChoice[i]];
                }
            }
            return NONE;
        }

        private void gatherPeople(int officers) {
            people = 0;
            int today = state.land.today;
            for (int officer = 0; officer < MAX_OFFICERS && people < DEALT_OFFICERS; officer++) {
                if ((officers >> officer & 1) != 0) {
                    scale.reckon(officer, today, today);
                    person[people] = officer;
                    lacks[people] = scale.yearly();
                    people++;
                }
            }
        }

        private void gatherLots() {
            lots = 0;
            for (int village = 0; village < state.land.villages && lots < DEALT_VILLAGES; village++) {
                if (state.holderToday(village) == NONE) {
                    lot[lots] = village;
                    lots++;
                }
            }
        }

        private void dealByRule() {
            Arrays.fill(choice, NONE);
            for (int turn = 0; turn < lots; turn++) {
                int i = greatestLotLeft();
                int neediest = 0;
                for (int p = 1; p < people; p++) {
                    if (lacks[p] > lacks[neediest]) {
                        neediest = p;
                    }
                }
                int paper = state.land.worth[lot[i]];
                if (lacks[neediest] * 2 >= paper) {
                    choice[i] = neediest;
                    lacks[neediest] -= paper;
                } else {
                    choice[i] = people;
                }
            }
        }

        private int greatestLotLeft() {
            int greatest = 0;
            int paper = 0;
            for (int i = 0; i < lots; i++) {
                if (choice[i] == NONE && state.land.worth[lot[i]] > paper) {
                    greatest = i;
                    paper = state.land.worth[lot[i]];
                }
            }
            return greatest;
        }

        /** Ways come in the order of their rows, so the first one with the least gap is the least row. */
        private void tryAllWays() {
            for (int i = 0; i < lots; i++) {
                choice[i] = 0;
                lacks[0] -= state.land.worth[lot[i]];
            }
            boolean more = true;
            for (int way = 0; way < MOST_WAYS && more; way++) {
                keepIfLess();
                more = goToNextWay();
            }
        }

        private boolean goToNextWay() {
            for (int i = lots - 1; i >= 0; i--) {
                int paper = state.land.worth[lot[i]];
                int p = choice[i];
                if (p < people) {
                    lacks[p] += paper;
                    choice[i] = p + 1;
                    if (p + 1 < people) {
                        lacks[p + 1] -= paper;
                    }
                    return true;
                }
                choice[i] = 0;
                lacks[0] -= paper;
            }
            return false;
        }

        private void keepIfLess() {
            int gap = 0;
            for (int p = 0; p < people; p++) {
                gap += Math.abs(lacks[p]);
            }
            if (gap < leastGap) {
                leastGap = gap;
                System.arraycopy(choice, 0, bestChoice, 0, lots);
            }
        }
    }

    /** The moves that are planned, and the row in which they can be done. */
    private static final class Moves {
        int size;
        final int[] mover = new int[MAX_MOVES];
        final int[] goal = new int[MAX_MOVES];
        int idlers;
        final int[] row = new int[MAX_MOVES];
        private int rowLength;
        private final int[] held = new int[MAX_VILLAGES];
        private final boolean[] done = new boolean[MAX_MOVES];

        boolean hasEither(int officer, int village) {
            for (int m = 0; m < size; m++) {
                if (mover[m] == officer || goal[m] == village) {
                    return true;
                }
            }
            return false;
        }

        int plan(int officer, int village) {
            int m = size;
            mover[m] = officer;
            goal[m] = village;
            size++;
            return m;
        }

        /** Each idle officer frees the first move left, so twice as many steps as moves are enough. */
        void reckonRow(Book book, int villages, int today) {
            for (int village = 0; village < villages; village++) {
                held[village] = book.holderOn(village, today, today);
            }
            for (int m = 0; m < size; m++) {
                done[m] = false;
            }
            idlers = 0;
            rowLength = 0;
            for (int step = 0; step < 2 * MAX_MOVES && rowLength < size; step++) {
                int ready = firstLeft(true);
                int stuck = firstLeft(false);
                if (ready != NONE) {
                    doMove(ready, villages);
                } else if (stuck != NONE) {
                    takeAll(held[goal[stuck]], villages);
                    idlers++;
                }
            }
        }

        private int firstLeft(boolean onlyReady) {
            for (int m = 0; m < size; m++) {
                boolean ready = held[goal[m]] == NONE || held[goal[m]] == mover[m];
                if (!done[m] && (ready || !onlyReady)) {
                    return m;
                }
            }
            return NONE;
        }

        private void doMove(int m, int villages) {
            takeAll(mover[m], villages);
            held[goal[m]] = mover[m];
            done[m] = true;
            row[rowLength] = m;
            rowLength++;
        }

        private void takeAll(int officer, int villages) {
            for (int village = 0; village < villages; village++) {
                if (held[village] == officer) {
                    held[village] = NONE;
                }
            }
        }

        void copyFrom(Moves other) {
            size = other.size;
            System.arraycopy(other.mover, 0, mover, 0, MAX_MOVES);
            System.arraycopy(other.goal, 0, goal, 0, MAX_MOVES);
        }
    }

    /** What the writers said, in the row in which they said it. */
    private static final class News {
        private final Land land;
        int words;
        final int[] writer = new int[MAX_WORDS];
        final int[] village = new int[MAX_WORDS];
        final int[] season = new int[MAX_WORDS];
        final int[] coins = new int[MAX_WORDS];
        final int[] said = new int[MAX_WORDS];

        News(Land land) {
            this.land = land;
        }

        int write(int by, int of, int inSeason, int howMany, int today) {
            int word = words;
            writer[word] = by;
            village[word] = of;
            season[word] = inSeason;
            coins[word] = howMany;
            said[word] = today;
            words++;
            return word;
        }

        int trustIn(int by, int k) {
            int n = 0;
            int total = 0;
            for (int word = 0; word < words; word++) {
                boolean ended = (season[word] + 1) * SEASON_DAYS <= k;
                if (writer[word] == by && said[word] <= k && ended) {
                    n++;
                    total += valueOf(coins[word], land.coins[village[word] * SEASONS + season[word]]);
                }
            }
            return n == 0 ? NEW_TRUST : total / n;
        }

        private static int valueOf(int told, int came) {
            if (came <= 0) {
                return told == 0 ? 100 : 0;
            }
            return Math.max(0, 100 - 20 * (Math.abs(told - came) * 10 / came));
        }

        int weigh(int of, int inSeason, int k) {
            int total = 0;
            int trusts = 0;
            for (int by = 0; by < WRITERS; by++) {
                int word = lastWord(by, of, inSeason, k);
                if (word != NONE) {
                    int weight = trustIn(by, k);
                    total += coins[word] * weight;
                    trusts += weight;
                }
            }
            return trusts == 0 ? NONE : total / trusts;
        }

        private int lastWord(int by, int of, int inSeason, int k) {
            int last = NONE;
            for (int word = 0; word < words; word++) {
                boolean fits = writer[word] == by && village[word] == of && season[word] == inSeason;
                if (fits && said[word] <= k) {
                    last = word;
                }
            }
            return last;
        }

        boolean isProven(int of, int inSeason, int k) {
            int low = 0;
            for (int by = 0; by < WRITERS; by++) {
                int word = lastWord(by, of, inSeason, k);
                if (word != NONE && 4 * coins[word] < land.worth[of]) {
                    low++;
                }
            }
            return low >= 2;
        }

        void copyFrom(News other) {
            words = other.words;
            System.arraycopy(other.writer, 0, writer, 0, MAX_WORDS);
            System.arraycopy(other.village, 0, village, 0, MAX_WORDS);
            System.arraycopy(other.season, 0, season, 0, MAX_WORDS);
            System.arraycopy(other.coins, 0, coins, 0, MAX_WORDS);
            System.arraycopy(other.said, 0, said, 0, MAX_WORDS);
        }
    }
}
