import java.util.ArrayList;
import java.util.Arrays;
import java.util.HashMap;
import java.util.List;
import java.util.Map;
import java.util.regex.Matcher;
import java.util.regex.Pattern;

/**
 * The document once more, written in another way: day by day, set by set, without any saving of work. An image
 * is the row of calls that changed something, and again() makes them anew.
 */
final class PlainModel {
    private record Village(int paper, int x, int y) { }

    private record Officer(int rank, int kin, int came) { }

    private record Order(int kind, int thing, int who, int from, int written) { }

    private record Word(int writer, int village, int season, int coins, int said) { }

    private record Token(String kind, String text, int place) { }

    private record Test(boolean not, String subject, String sign, int number) { }

    private record Line(List<Test> tests, String deed, int number) { }

    private record Reign(int begins, List<Line> lines) { }

    private static final Pattern TOKENS = Pattern.compile("[\\n ]*(?:([a-z]+)|([0-9]+)|([:;<>=])|([^\\n ]))", Pattern.DOTALL);

    private List<Village> villages;
    private int[] health;
    private int[] squeeze;
    private int[] weather;
    private Map<Integer, Integer> come;
    private int day;
    private List<Officer> officers;
    private int[] death;
    private List<Order> orders;
    private StringBuilder tape;
    private List<Reign> reigns;
    private int fault;
    private int place;
    private List<int[]> moves;
    private List<Word> words;

    private List<int[]> log = new ArrayList<>();
    private final Map<Integer, List<int[]>> images = new HashMap<>();

    PlainModel() {
        clear();
    }

    private void clear() {
        villages = new ArrayList<>();
        health = new int[12];
        squeeze = new int[12];
        Arrays.fill(health, 100);
        Arrays.fill(squeeze, 100);
        weather = new int[20];
        Arrays.fill(weather, 100);
        come = new HashMap<>();
        day = 0;
        officers = new ArrayList<>();
        death = new int[10];
        Arrays.fill(death, Integer.MAX_VALUE);
        orders = new ArrayList<>();
        tape = new StringBuilder();
        reigns = new ArrayList<>();
        fault = 0;
        place = -1;
        moves = new ArrayList<>();
        words = new ArrayList<>();
    }

    /** The calls by their place in the document's face, a boolean as 1 or 0. */
    long call(int what, int[] a) {
        switch (what) {
            case 37: return image(a[0]);
            case 38: return again(a[0]);
            default: break;
        }
        int[] row = new int[a.length + 1];
        row[0] = what;
        System.arraycopy(a, 0, row, 1, a.length);
        log.add(row);
        return answer(what, a);
    }

    private long image(int k) {
        if (k < 0 || k > 2) {
            return 0;
        }
        images.put(k, new ArrayList<>(log));
        return 1;
    }

    private long again(int k) {
        if (!images.containsKey(k)) {
            return 0;
        }
        log = new ArrayList<>(images.get(k));
        clear();
        for (int[] row : log) {
            // Only these change anything.
            if (List.of(2, 3, 4, 5, 8, 9, 10, 11, 16, 17, 18, 27, 28, 31).contains(row[0])) {
                answer(row[0], Arrays.copyOfRange(row, 1, row.length));
            }
        }
        return 1;
    }

    private long answer(int what, int[] a) {
        switch (what) {
            case 2: return village(a[0], a[1], a[2]);
            case 3: return weather(a[0], a[1]);
            case 4: return squeeze(a[0], a[1]);
            case 5: return days(a[0]);
            case 6: return isVillage(a[0]) && ended(a[1]) ? cameOf(a[0], a[1]) : -1;
            case 7: return about(a[0], a[1]);
            case 8: return officer(a[0], a[1]);
            case 9: return dies(a[0]);
            case 10: return give(a[0], a[1], a[2]);
            case 11: return raise(a[0], a[1], a[2]);
            case 12: return order(a[0], a[1]);
            case 13: return isVillage(a[0]) && in(a[1], 0, 1199) && in(a[2], 0, day) ? holder(a[0], a[1], a[2]) : -2;
            case 14: return serves(a[0], a[1]) && in(a[2], 0, day) ? rank(a[0], a[1], a[2]) : -1;
            case 15: return isOfficer(a[0]) && ended(a[1]) && in(a[2], 0, day) ? had(a[0], a[1], a[2]) : -1;
            case 16: return feed(a);
            case 17: return end(a[0]);
            case 18: return reign(a[0]);
            case 19: return a[0] == 0 ? fault : a[0] == 1 ? place : -1;
            case 20: return serves(a[0], a[1]) && in(a[2], 0, day) && in(a[3], 0, 4) ? scale(a[0], a[1], a[2])[a[3]] : -1;
            case 21: return isOfficer(a[0]) && in(a[1], 0, 19) && in(a[2], 0, day) ? due(a[0], a[1], a[2]) : -1;
            case 22: return isOfficer(a[0]) && ended(a[1]) && in(a[2], 0, day) ? balance(a[0], a[1], a[2]) : -1000000000;
            case 23: return serves(a[0], day) && in(a[1], 0, 9999) ? fit(a[0], a[1]) : -1;
            case 24: return near(a[0]);
            case 25: return canDeal(a[0]) ? gap(a[0], dealRow(a[0], a[1] != 0)) : -1;
            case 26: return dealt(a[0], a[1] != 0, a[2]);
            case 27: return move(a[0], a[1]);
            case 28: moves.clear(); return 0;
            case 29: return rowOfMoves().get(0);
            case 30: return in(a[0], 0, moves.size() - 1) ? rowOfMoves().get(a[0] + 1) : -1;
            case 31: return say(a[0], a[1], a[2], a[3]);
            case 32: return in(a[0], 0, 4) && in(a[1], 0, day) ? trust(a[0], a[1]) : -1;
            case 33: return isVillage(a[0]) && in(a[1], 0, 19) && in(a[2], 0, day) ? weighed(a[0], a[1], a[2]) : -1;
            case 34: return isVillage(a[0]) && in(a[1], 0, 19) && in(a[2], 0, day) && famine(a[0], a[1], a[2]) ? 1 : 0;
            case 35: return tried(a[0], a[1], a[2], a[3], a[4]);
            case 36: return count(a[0]);
            default: throw new IllegalArgumentException("call " + what);
        }
    }

    private static boolean in(int n, int least, int most) {
        return least <= n && n <= most;
    }

    private boolean isVillage(int v) {
        return in(v, 0, villages.size() - 1);
    }

    private boolean isOfficer(int o) {
        return in(o, 0, officers.size() - 1);
    }

    private boolean ended(int season) {
        return season >= 0 && season * 60L + 59 < day;
    }

    private int cameOf(int v, int season) {
        return come.getOrDefault(v * 100 + season, 0);
    }

    private long village(int paper, int x, int y) {
        if (villages.size() == 12 || !in(paper, 1, 9999) || !in(x, 0, 50) || !in(y, 0, 50)) {
            return -1;
        }
        villages.add(new Village(paper, x, y));
        return villages.size() - 1;
    }

    private long weather(int season, int percent) {
        if (!in(season, 0, 19) || ended(season) || !in(percent, 0, 200)) {
            return 0;
        }
        weather[season] = percent;
        return 1;
    }

    private long squeeze(int v, int percent) {
        if (!isVillage(v) || !in(percent, 50, 150)) {
            return 0;
        }
        squeeze[v] = percent;
        return 1;
    }

    private static long percent(long n, long percent) {
        return (n * percent - n * percent % 100) / 100;
    }

    private static int health(int was, int squeeze) {
        int next = was + 3;
        if (squeeze > 100) {
            next = was - (int) Math.floor((squeeze - 100) / 5.0);
        }
        return next < 0 ? 0 : next > 100 ? 100 : next;
    }

    private long days(int n) {
        if (!in(n, 1, 200) || day + n > 1199) {
            return -1;
        }
        for (int i = 0; i < n; i++) {
            day++;
            if (day % 60 == 0) {
                int season = day / 60 - 1;
                for (int v = 0; v < villages.size(); v++) {
                    long coins = percent(percent(percent(villages.get(v).paper, health[v]), weather[season]), squeeze[v]) / 2;
                    come.put(v * 100 + season, (int) coins);
                    health[v] = health(health[v], squeeze[v]);
                }
            }
        }
        return day;
    }

    private long about(int v, int what) {
        if (!isVillage(v) || !in(what, 0, 6)) {
            return -2;
        }
        Village it = villages.get(v);
        int[] all = {it.paper, it.x, it.y, health[v], squeeze[v], holder(v, day, day), over(v) ? 1 : 0};
        return all[what];
    }

    private boolean over(int v) {
        int o = holder(v, day, day);
        return o != -1 && squeeze[v] > scale(o, day, day)[3];
    }

    private long officer(int rank, int kin) {
        if (officers.size() == 10 || !in(rank, 0, 9) || !in(kin, 0, 9)) {
            return -1;
        }
        officers.add(new Officer(rank, kin, day));
        return officers.size() - 1;
    }

    private boolean serves(int o, int d) {
        return isOfficer(o) && in(d, 0, 1199) && officers.get(o).came <= d && d < death[o];
    }

    private long dies(int o) {
        if (!isOfficer(o) || death[o] != Integer.MAX_VALUE) {
            return 0;
        }
        death[o] = day;
        return 1;
    }

    private long give(int v, int o, int d) {
        if (!isVillage(v) || o != -1 && !isOfficer(o) || !in(d, 0, 1199) || orders.size() == 100) {
            return -1;
        }
        orders.add(new Order(0, v, o, d, day));
        return orders.size() - 1;
    }

    private long raise(int o, int rank, int d) {
        if (!isOfficer(o) || !in(rank, 0, 9) || !in(d, 0, 1199) || orders.size() == 100) {
            return -1;
        }
        orders.add(new Order(1, rank, o, d, day));
        return orders.size() - 1;
    }

    private long order(int n, int what) {
        if (!in(n, 0, orders.size() - 1) || !in(what, 0, 4)) {
            return -2;
        }
        Order o = orders.get(n);
        return new int[] {o.kind, o.thing, o.who, o.from, o.written}[what];
    }

    private int holder(int v, int d, int k) {
        for (int from = d; from >= 0; from--) {
            for (int i = orders.size() - 1; i >= 0; i--) {
                Order o = orders.get(i);
                if (o.kind == 0 && o.thing == v && o.from == from && o.written <= k) {
                    return serves(o.who, d) ? o.who : -1;
                }
            }
        }
        return -1;
    }

    private int rank(int officer, int d, int k) {
        for (int from = d; from >= 0; from--) {
            for (int i = orders.size() - 1; i >= 0; i--) {
                Order o = orders.get(i);
                if (o.kind == 1 && o.who == officer && o.from == from && o.written <= k) {
                    return o.thing;
                }
            }
        }
        return officers.get(officer).rank;
    }

    private int had(int o, int season, int k) {
        int crown = serves(o, season * 60) ? scale(o, season * 60, k)[2] : 0;
        long total = 0;
        for (int v = 0; v < villages.size(); v++) {
            long coins = cameOf(v, season) - percent(cameOf(v, season), crown);
            long days = 0;
            for (int d = season * 60; d < season * 60 + 60; d++) {
                days += holder(v, d, k) == o ? 1 : 0;
            }
            total += coins * days / 60;
        }
        return (int) total;
    }

    private long feed(int[] a) {
        if (tape.length() > 480) {
            return -1;
        }
        for (int i = 0; i < 20; i++) {
            tape.append((char) (a[i / 4] >>> 24 - i % 4 * 8 & 255));
        }
        return tape.length();
    }

    private long end(int n) {
        if (n < 0 || n > tape.length()) {
            return -1;
        }
        tape.setLength(n);
        return n;
    }

    private static List<Token> tokens(String text) {
        List<Token> all = new ArrayList<>();
        Matcher m = TOKENS.matcher(text);
        int at = 0;
        while (m.find(at) && m.start() == at) {
            if (m.group(1) != null) {
                all.add(new Token(m.group(1), m.group(1), m.start(1)));
            } else if (m.group(2) != null) {
                all.add(new Token(m.group(2).length() > 4 ? "bad" : "0", m.group(2), m.start(2)));
            } else if (m.group(3) != null) {
                all.add(new Token(m.group(3), m.group(3), m.start(3)));
            } else {
                all.add(new Token("bad", m.group(4), m.start(4)));
            }
            at = m.end();
        }
        all.add(new Token("end", "", text.length()));
        return all;
    }

    /** Which kinds of tokens may follow, by the state that the text is in. */
    private static String next(String state, String kind) {
        switch (state) {
            case "line": return kind.equals("if") ? "test" : next("deed", kind);
            case "deed":
                if (kind.equals("stop")) {
                    return "semicolon";
                }
                return List.of("pay", "less", "months", "crown", "take").contains(kind) ? "amount" : null;
            case "amount": return kind.equals("0") ? "semicolon" : null;
            case "semicolon": return kind.equals(";") ? "line" : null;
            case "test": return kind.equals("not") ? "subject" : next("subject", kind);
            case "subject":
                if (kind.equals("famine")) {
                    return "more";
                }
                return List.of("rank", "served", "kin", "season", "had").contains(kind) ? "sign" : null;
            case "sign": return List.of("<", ">", "=").contains(kind) ? "limit" : null;
            case "limit": return kind.equals("0") ? "more" : null;
            case "more": return kind.equals("and") ? "test" : kind.equals(":") ? "deed" : null;
            default: return null;
        }
    }

    private int formFault(List<Token> all) {
        String state = "line";
        for (Token t : all) {
            if (t.kind.equals("end")) {
                return state.equals("line") ? -1 : t.place;
            }
            state = next(state, t.kind);
            if (state == null) {
                return t.place;
            }
        }
        return -1;
    }

    private long reign(int d) {
        String text = tape.toString();
        tape.setLength(0);
        fault = 0;
        place = -1;
        if (reigns.size() == 4 || !in(d, 0, 1199) || !reigns.isEmpty() && reigns.get(reigns.size() - 1).begins >= d) {
            return -2;
        }
        List<Token> all = tokens(text);
        if (formFault(all) != -1) {
            fault = 1;
            place = formFault(all);
            return -1;
        }
        List<Line> lines = lines(all);
        if (fault != 0) {
            return -1;
        }
        reigns.add(new Reign(d, lines));
        return lines.size();
    }

    private void complain(int what, int where) {
        if (place == -1 || where < place) {
            fault = what;
            place = where;
        }
    }

    /** The text is well formed here: so each line ends with a semicolon, and 'if' stands at its head alone. */
    private List<Line> lines(List<Token> all) {
        List<Line> lines = new ArrayList<>();
        int from = 0;
        for (int i = 0; i < all.size(); i++) {
            if (all.get(i).kind.equals(";")) {
                if (lines.size() >= 16) {
                    complain(3, all.get(from).place);
                }
                lines.add(line(all.subList(from, i)));
                from = i + 1;
            }
        }
        return lines;
    }

    private Line line(List<Token> row) {
        List<Test> tests = new ArrayList<>();
        int at = 0;
        if (row.get(0).kind.equals("if")) {
            while (!row.get(at).kind.equals(":")) {
                at++;
                if (tests.size() >= 4) {
                    complain(3, row.get(at).place);
                }
                boolean not = row.get(at).kind.equals("not");
                at += not ? 1 : 0;
                boolean hungry = row.get(at).kind.equals("famine");
                tests.add(hungry ? new Test(not, "famine", "=", 0)
                    : new Test(not, row.get(at).text, row.get(at + 1).text, Integer.parseInt(row.get(at + 2).text)));
                at += hungry ? 1 : 3;
            }
            at++;
        }
        String deed = row.get(at).text;
        int number = deed.equals("stop") ? 0 : Integer.parseInt(row.get(at + 1).text);
        boolean good = switch (deed) {
            case "months" -> in(number, 1, 12);
            case "less", "crown" -> number <= 100;
            case "take" -> in(number, 50, 150);
            default -> true;
        };
        if (!good) {
            complain(2, row.get(at + 1).place);
        }
        return new Line(tests, deed, number);
    }

    private boolean holds(Test t, int o, int d, int k) {
        int holds = 0;
        boolean hungry = false;
        for (int v = 0; v < villages.size(); v++) {
            if (holder(v, d, k) == o) {
                holds++;
                hungry |= famine(v, d / 60, k);
            }
        }
        if (t.subject.equals("famine")) {
            return hungry != t.not;
        }
        int n = switch (t.subject) {
            case "rank" -> rank(o, d, k);
            case "served" -> (d - officers.get(o).came) / 120;
            case "kin" -> officers.get(o).kin;
            case "season" -> d / 60 % 2;
            default -> holds;
        };
        boolean is = t.sign.equals("<") && n < t.number || t.sign.equals(">") && n > t.number
            || t.sign.equals("=") && n == t.number;
        return is != t.not;
    }

    private int[] scale(int o, int d, int k) {
        long pay = 0;
        int months = 12;
        int crown = 0;
        int take = 150;
        List<Line> lines = new ArrayList<>();
        for (Reign r : reigns) {
            lines = r.begins <= d ? r.lines : lines;
        }
        for (Line line : lines) {
            boolean all = true;
            for (Test t : line.tests) {
                all = all && holds(t, o, d, k);
            }
            if (!all) {
                continue;
            }
            if (line.deed.equals("stop")) {
                break;
            }
            switch (line.deed) {
                case "pay" -> pay += line.number;
                case "less" -> pay = pay - percent(pay, line.number);
                case "months" -> months = line.number;
                case "crown" -> crown = line.number;
                default -> take = line.number;
            }
        }
        return new int[] {(int) pay, months, crown, take, (int) Math.floorDiv(pay * months, 12L)};
    }

    private int due(int o, int season, int k) {
        long total = 0;
        for (int d = season * 60; d < season * 60 + 60; d++) {
            total += serves(o, d) ? scale(o, d, k)[4] : 0;
        }
        return (int) (total / 120);
    }

    private int balance(int o, int season, int k) {
        int total = 0;
        for (int s = season; s >= 0; s--) {
            total = total + had(o, s, k) - due(o, s, k);
        }
        return total;
    }

    private int near(int set) {
        int twice = 0;
        for (int a = 0; a < villages.size(); a++) {
            for (int b = 0; b < villages.size(); b++) {
                if ((set & 1 << a) != 0 && (set & 1 << b) != 0) {
                    twice += Math.abs(villages.get(a).x - villages.get(b).x) + Math.abs(villages.get(a).y - villages.get(b).y);
                }
            }
        }
        return twice / 2;
    }

    private boolean mayFit(int v, int o) {
        if (holder(v, day, day) != -1) {
            return false;
        }
        for (Order order : orders) {
            if (order.kind == 0 && order.thing == v && order.who != -1
                && officers.get(order.who).kin == officers.get(o).kin) {
                return false;
            }
        }
        return true;
    }

    private int fit(int o, int e) {
        int wanted = scale(o, day, day)[4];
        int open = 0;
        for (int v = 0; v < villages.size(); v++) {
            open += mayFit(v, o) ? 1 << v : 0;
        }
        long best = Long.MAX_VALUE;
        for (int set = 1; set < 1 << villages.size(); set++) {
            int paper = 0;
            for (int v = 0; v < villages.size(); v++) {
                paper += (set & 1 << v) != 0 ? villages.get(v).paper : 0;
            }
            if ((set | open) == open && Math.abs(paper - wanted) <= e) {
                // one number that orders by all three
                best = Math.min(best, Math.abs(paper - wanted) * 100000000000L + near(set) * 10000L + set);
            }
        }
        return best == Long.MAX_VALUE ? -1 : (int) (best % 10000);
    }

    private boolean canDeal(int bits) {
        int n = 0;
        for (int o = 0; o < 32; o++) {
            if ((bits >>> o & 1) == 1) {
                n++;
                if (!serves(o, day)) {
                    return false;
                }
            }
        }
        return in(n, 1, 3);
    }

    private List<Integer> lots() {
        List<Integer> lots = new ArrayList<>();
        for (int v = 0; v < villages.size(); v++) {
            if (holder(v, day, day) == -1 && lots.size() < 7) {
                lots.add(v);
            }
        }
        return lots;
    }

    private int[] dealRow(int bits, boolean best) {
        return best ? bestRow(bits) : ruleRow(bits);
    }

    private int gap(int bits, int[] row) {
        List<Integer> lots = lots();
        int gap = 0;
        for (int o = 0; o < 10; o++) {
            if ((bits >> o & 1) == 1) {
                int paper = 0;
                for (int i = 0; i < row.length; i++) {
                    paper += row[i] == o ? villages.get(lots.get(i)).paper : 0;
                }
                gap += Math.abs(paper - scale(o, day, day)[4]);
            }
        }
        return gap;
    }

    private int[] ruleRow(int bits) {
        List<Integer> lots = lots();
        List<Integer> sorted = new ArrayList<>(lots);
        sorted.sort((a, b) -> villages.get(a).paper != villages.get(b).paper
            ? villages.get(b).paper - villages.get(a).paper : a - b);
        int[] row = new int[lots.size()];
        Map<Integer, Integer> got = new HashMap<>();
        for (int v : sorted) {
            int who = -1;
            int most = 0;
            for (int o = 0; o < 10; o++) {
                if ((bits >> o & 1) == 1) {
                    int lack = scale(o, day, day)[4] - got.getOrDefault(o, 0);
                    if (who == -1 || lack > most) {
                        who = o;
                        most = lack;
                    }
                }
            }
            boolean takes = most >= villages.get(v).paper / 2.0;
            row[lots.indexOf(v)] = takes ? who : 10;
            if (takes) {
                got.merge(who, villages.get(v).paper, Integer::sum);
            }
        }
        return row;
    }

    private int[] bestRow(int bits) {
        List<Integer> lots = lots();
        List<Integer> people = new ArrayList<>();
        List<Integer> dues = new ArrayList<>();
        for (int o = 0; o < 10; o++) {
            if ((bits >> o & 1) == 1) {
                people.add(o);
                dues.add(scale(o, day, day)[4]);
            }
        }
        int ways = 1;
        for (int i = 0; i < lots.size(); i++) {
            ways *= people.size() + 1;
        }
        int[] best = null;
        int least = 0;
        for (int way = ways - 1; way >= 0; way--) {
            int[] row = new int[lots.size()];
            int rest = way;
            int[] got = new int[people.size() + 1];
            for (int i = 0; i < row.length; i++) {
                int p = rest % (people.size() + 1);
                rest /= people.size() + 1;
                row[i] = p == people.size() ? 10 : people.get(p);
                got[p] += villages.get(lots.get(i)).paper;
            }
            int gap = 0;
            for (int p = 0; p < people.size(); p++) {
                gap += Math.abs(got[p] - dues.get(p));
            }
            if (best == null || gap < least || gap == least && Arrays.compare(row, best) < 0) {
                best = row;
                least = gap;
            }
        }
        return best;
    }

    private int dealt(int bits, boolean best, int v) {
        if (!canDeal(bits)) {
            return -1;
        }
        int i = lots().indexOf(v);
        int who = i == -1 ? 10 : dealRow(bits, best)[i];
        return who == 10 ? -1 : who;
    }

    private long move(int o, int v) {
        if (moves.size() == 12 || !isVillage(v) || !serves(o, day)) {
            return -1;
        }
        for (int[] m : moves) {
            if (m[0] == o || m[1] == v) {
                return -1;
            }
        }
        moves.add(new int[] {o, v});
        return moves.size() - 1;
    }

    /** How many are idle, then the moves as they are done. */
    private List<Integer> rowOfMoves() {
        int[] held = new int[12];
        for (int v = 0; v < villages.size(); v++) {
            held[v] = holder(v, day, day);
        }
        List<Integer> left = new ArrayList<>();
        for (int m = 0; m < moves.size(); m++) {
            left.add(m);
        }
        List<Integer> row = new ArrayList<>(List.of(0));
        while (!left.isEmpty()) {
            Integer next = null;
            for (Integer m : left) {
                int h = held[moves.get(m)[1]];
                if (next == null && (h == -1 || h == moves.get(m)[0])) {
                    next = m;
                }
            }
            int loser = next == null ? held[moves.get(left.get(0))[1]] : moves.get(next)[0];
            for (int v = 0; v < 12; v++) {
                held[v] = held[v] == loser ? -1 : held[v];
            }
            if (next == null) {
                row.set(0, row.get(0) + 1);
            } else {
                held[moves.get(next)[1]] = loser;
                row.add(next);
                left.remove(next);
            }
        }
        return row;
    }

    private long say(int w, int v, int season, int coins) {
        if (!in(w, 0, 4) || !isVillage(v) || !in(season, 0, 19) || !in(coins, 0, 9999) || words.size() == 100) {
            return -1;
        }
        words.add(new Word(w, v, season, coins, day));
        return words.size() - 1;
    }

    private int trust(int w, int k) {
        int n = 0;
        int total = 0;
        for (Word word : words) {
            if (word.writer == w && word.said <= k && word.season * 60 + 59 < k) {
                n++;
                int came = cameOf(word.village, word.season);
                int worth = 100;
                if (came == 0) {
                    worth = word.coins == 0 ? 100 : 0;
                } else {
                    for (int tenth = 1; tenth * came <= 10 * Math.abs(word.coins - came) && worth > 0; tenth++) {
                        worth -= 20;
                    }
                }
                total += worth;
            }
        }
        return n == 0 ? 50 : total / n;
    }

    private Word last(int w, int v, int season, int k) {
        Word last = null;
        for (Word word : words) {
            if (word.writer == w && word.village == v && word.season == season && word.said <= k) {
                last = word;
            }
        }
        return last;
    }

    private int weighed(int v, int season, int k) {
        long total = 0;
        long trusts = 0;
        for (int w = 0; w < 5; w++) {
            Word word = last(w, v, season, k);
            if (word != null) {
                total += (long) word.coins * trust(w, k);
                trusts += trust(w, k);
            }
        }
        return trusts == 0 ? -1 : (int) (total / trusts);
    }

    private boolean famine(int v, int season, int k) {
        int low = 0;
        for (int w = 0; w < 5; w++) {
            Word word = last(w, v, season, k);
            low += word != null && word.coins < villages.get(v).paper / 4.0 ? 1 : 0;
        }
        return low > 1;
    }

    private long tried(int paper, int n, int t, int s, int what) {
        if (!in(paper, 1, 9999) || !in(n, 1, 20) || !in(t, 0, 20) || !in(s, 50, 150) || !in(what, 0, 2)) {
            return -1;
        }
        long[] all = {0, 100, 0};
        int stays = 0;
        for (int season = 0; season < n; season++) {
            stays++;
            int force = 100;
            if (stays == t) {
                force = s;
                stays = 0;
            }
            long got = percent(percent(percent(paper, all[1]), weather[season]), force) / 2;
            long paid = got;
            if (t == 0 && paper * s / 200 < got) {
                paid = paper * s / 200;
            }
            all[0] += paid;
            all[2] += got - paid;
            all[1] = health((int) all[1], force);
        }
        return all[what];
    }

    private long count(int what) {
        int serving = 0;
        for (int o = 0; o < officers.size(); o++) {
            serving += serves(o, day) ? 1 : 0;
        }
        int crown = 0;
        int over = 0;
        for (int v = 0; v < villages.size(); v++) {
            crown += holder(v, day, day) == -1 ? 1 : 0;
            over += over(v) ? 1 : 0;
        }
        int[] all = {villages.size(), officers.size(), orders.size(), reigns.size(), day, day / 60, moves.size(),
            words.size(), serving, crown, over};
        return in(what, 0, 10) ? all[what] : -1;
    }
}
