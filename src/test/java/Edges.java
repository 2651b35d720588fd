import java.util.IdentityHashMap;
import java.util.Map;

/** What the tests of edges share: lives that can be led again on a new object, and calls that are refused. */
final class Edges {
    /** A row of at most 250 calls, the same whenever it is led. */
    interface Life {
        void lead(VillagePay x);
    }

    interface Call {
        long on(VillagePay x);
    }

    static final int LEAST = Integer.MIN_VALUE;
    static final int MOST = Integer.MAX_VALUE;

    private final Checks c;
    private final Map<Life, Look> looks = new IdentityHashMap<>();

    Edges(Checks c) {
        this.c = c;
    }

    /** The first numbers that are not taken on both sides, and the ends of int. */
    static int[] beside(int least, int most) {
        return new int[] {LEAST, least - 1, most + 1, MOST};
    }

    static VillagePay led(Life life) {
        VillagePay x = new VillagePay();
        life.lead(x);
        return x;
    }

    static long bit(boolean b) {
        return b ? 1 : 0;
    }

    /** Lets days go by up to that one, at most 200 at once. */
    static void goTo(VillagePay x, int day) {
        int today = x.count(4);
        for (int i = 0; i < 10 && today < day; i++) {
            x.days(Math.min(200, day - today));
            today = x.count(4);
        }
    }

    /** The call has that answer, on an object that has led that life. */
    void answers(String what, Life life, long want, Call call) {
        c.is(what, call.on(led(life)), want);
    }

    /** The call has that answer, and all that can be asked is as it was without it. */
    void refused(String what, Life life, long want, Call call) {
        answers(what, life, want, call);
        Look without = looks.computeIfAbsent(life, Look::new);
        Look with = new Look(x -> {
            life.lead(x);
            call.on(x);
        });
        c.is(what + " changes nothing, but " + with.firstUnlike(without), with.isLike(without), true);
    }

    /** The call has that answer, and something that can be asked is not as it was without it. */
    void changes(String what, Life life, long want, Call call) {
        answers(what, life, want, call);
        Look with = new Look(x -> {
            life.lead(x);
            call.on(x);
        });
        c.no(what + " changes nothing", with.isLike(looks.computeIfAbsent(life, Look::new)));
    }

    /** A life in which there is some of everything: now is day 130, officer 2 is dead, image 1 is made. */
    static void town(VillagePay x) {
        x.village(1000, 0, 0);
        x.village(600, 3, 4);
        x.village(400, 50, 50);
        x.officer(2, 1);
        x.officer(5, 2);
        x.officer(0, 9);
        x.weather(0, 50);
        x.weather(4, 170);
        x.squeeze(1, 120);
        x.give(0, 0, 0);
        x.give(1, 1, 20);
        x.raise(0, 4, 90);
        x.say(0, 0, 0, 250);
        x.say(1, 0, 0, 100);
        Checks.rules(x, 30, "pay 600;if rank>3:pay 300;crown 20;take 110;");
        x.days(70);
        x.image(1);
        x.dies(2);
        x.days(60);
        x.move(0, 1);
        x.give(2, 0, 150);
        x.say(2, 1, 3, 149);
        x.say(3, 1, 3, 0);
        Checks.rules(x, 140, "months 13;");
        Checks.tape(x, "pay 5;");
    }
}
