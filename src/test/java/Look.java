import java.util.ArrayList;
import java.util.List;

/** All that can be asked of an object, asked of new ones that have led the same life, so that none has over 512 calls. */
final class Look {
    private static final int FEW = 250;
    private static final int[] SOME_DAYS = {0, 1, 59, 60, 119, 120, 600, 1199};

    private final Edges.Life life;
    private final List<String> answers = new ArrayList<>();
    private VillagePay twin;
    private final int most;
    private int asked;
    private final int today;
    private final int villages;
    private final int officers;

    Look(Edges.Life life) {
        this(life, FEW);
    }

    /** Asks each object so many questions at most; a longer life leaves less room for them. */
    Look(Edges.Life life, int most) {
        this.life = life;
        this.most = most;
        asked = most;
        today = x().count(4);
        villages = x().count(0);
        officers = x().count(1);
        counts();
        land();
        book();
        accounts();
        scales();
        deals();
        news();
        tape();
        images();
    }

    boolean isLike(Look other) {
        return answers.equals(other.answers);
    }

    String firstUnlike(Look other) {
        for (int i = 0; i < answers.size(); i++) {
            String there = i < other.answers.size() ? other.answers.get(i) : "nothing";
            if (!answers.get(i).equals(there)) {
                return answers.get(i) + ", without it " + there;
            }
        }
        return answers.size() == other.answers.size() ? "nothing" : "there is less";
    }

    private VillagePay x() {
        if (asked == most) {
            twin = Edges.led(life);
            asked = 0;
        }
        asked++;
        return twin;
    }

    private void told(String what, int a, int b, int k, long answer) {
        answers.add(what + " " + a + " " + b + " " + k + ": " + answer);
    }

    private void counts() {
        for (int what = 0; what <= 10; what++) {
            told("count", what, 0, 0, x().count(what));
        }
        told("fault", 0, 0, 0, x().fault(0));
        told("fault", 1, 0, 0, x().fault(1));
    }

    private void land() {
        for (int v = 0; v < villages; v++) {
            for (int what = 0; what <= 6; what++) {
                told("about", v, what, 0, x().about(v, what));
            }
            for (int s = 0; s < today / 60; s++) {
                told("come", v, s, 0, x().come(v, s));
            }
        }
        told("near", -1, 0, 0, x().near(-1));
        for (int n = 1; n <= 20; n++) {
            // the weather of each season is seen in what came of it
            told("tried", n, 0, 0, x().tried(9999, n, 1, 100, 0));
        }
    }

    private void book() {
        for (int o = 0; o < x().count(2); o++) {
            for (int what = 0; what < 5; what++) {
                told("order", o, what, 0, x().order(o, what));
            }
        }
        for (int day : SOME_DAYS) {
            for (int k = 0; k <= today; k += Math.max(1, today / 2)) {
                for (int v = 0; v < villages; v++) {
                    told("holder", v, day, k, x().holder(v, day, k));
                }
                for (int o = 0; o < officers; o++) {
                    told("rank", o, day, k, x().rank(o, day, k));
                }
            }
        }
        for (int o = 0; o < officers; o++) {
            told("rank", o, today, today, x().rank(o, today, today));
        }
    }

    private void accounts() {
        for (int o = 0; o < officers; o++) {
            for (int s = 0; s < 20; s++) {
                told("had", o, s, today, x().had(o, s, today));
                told("due", o, s, today, x().due(o, s, today));
                told("balance", o, s, today, x().balance(o, s, today));
            }
        }
    }

    private void scales() {
        for (int o = 0; o < officers; o++) {
            for (int day : SOME_DAYS) {
                for (int what = 0; what < 5; what++) {
                    told("scale of what " + what, o, day, today, x().scale(o, day, today, what));
                }
            }
        }
    }

    private void deals() {
        for (int o = 0; o < officers; o++) {
            told("fit", o, 9999, 0, x().fit(o, 9999));
            told("deal by rule", 1 << o, 0, 0, x().deal(1 << o, false));
        }
        told("idle", 0, 0, 0, x().idle());
        for (int place = 0; place < 12; place++) {
            told("moved", place, 0, 0, x().moved(place));
        }
    }

    private void news() {
        for (int w = 0; w < 5; w++) {
            for (int k = 0; k <= today; k += Math.max(1, today / 2)) {
                told("trust", w, 0, k, x().trust(w, k));
            }
            told("trust", w, 0, today, x().trust(w, today));
        }
        for (int v = 0; v < villages; v++) {
            for (int s = 0; s < 20; s++) {
                told("weighed", v, s, today, x().weighed(v, s, today));
                told("weighed", v, s, today / 9, x().weighed(v, s, today / 9));
                told("famine", v, s, today, Edges.bit(x().famine(v, s, today)));
            }
        }
    }

    /** How long the tape is, and what stands on it; each needs an object of its own. */
    private void tape() {
        int length = Edges.led(life).feed(0, 0, 0, 0, 0) - 20;
        VillagePay full = Edges.led(life);
        for (int n = 500; n > 480 && length < 0; n--) {
            length = full.end(n) == n ? n : length;
        }
        told("the tape's length", 0, 0, 0, length);
        VillagePay taken = Edges.led(life);
        told("reign", 1199, 0, 0, taken.reign(1199));
        told("its fault", 0, 0, 0, taken.fault(0));
        told("its place", 1, 0, 0, taken.fault(1));
        for (int o = 0; o < officers; o++) {
            told("pay by it", o, 1199, 0, taken.scale(o, 1199, 0, 0));
        }
    }

    private void images() {
        for (int k = 0; k < 3; k++) {
            VillagePay back = Edges.led(life);
            told("again", k, 0, 0, Edges.bit(back.again(k)));
            for (int what = 0; what <= 10; what++) {
                told("count in image " + k, what, 0, 0, back.count(what));
            }
            for (int v = 0; v < back.count(0); v++) {
                for (int what = 0; what <= 6; what++) {
                    told("about in image " + k, v, what, 0, back.about(v, what));
                }
            }
            told("fault in image " + k, 0, 0, 0, back.fault(0));
            told("the tape in image " + k, 0, 0, 0, back.feed(0, 0, 0, 0, 0));
        }
    }
}
