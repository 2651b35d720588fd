/** Promises 1 to 7: a new object, villages, weather, squeeze, days, what came, about. */
public final class LandTest {
    private static final Checks c = new Checks("LandTest");

    public static void main(String[] args) {
        aNewObject();
        village();
        weather();
        squeeze();
        days();
        come();
        comeIsCutAtEachStep();
        healthStaysWithinItsBounds();
        aVillageThatCameLater();
        about();
        c.finish();
    }

    private static void aNewObject() {
        VillagePay x = new VillagePay();
        for (int what = 0; what <= 10; what++) {
            c.is("new: count(" + what + ")", x.count(what), 0);
        }
        c.is("new: fault(0)", x.fault(0), 0);
        c.is("new: fault(1)", x.fault(1), -1);
        c.is("new: end(1)", x.end(1), -1);
        c.is("new: idle()", x.idle(), 0);
        for (int k = 0; k < 3; k++) {
            c.no("new: again(" + k + ")", x.again(k));
        }
        c.is("NONE", VillagePay.NONE, -1);
    }

    private static void village() {
        VillagePay x = new VillagePay();
        int[][] wrong = {{0, 0, 0}, {10000, 0, 0}, {-1, 0, 0}, {1, -1, 0}, {1, 51, 0}, {1, 0, -1}, {1, 0, 51},
            {Integer.MIN_VALUE, 0, 0}, {1, Integer.MAX_VALUE, 0}};
        for (int[] w : wrong) {
            c.is("village(" + w[0] + ", " + w[1] + ", " + w[2] + ")", x.village(w[0], w[1], w[2]), -1);
        }
        c.is("no village yet", x.count(0), 0);
        c.is("village(1, 0, 0)", x.village(1, 0, 0), 0);
        c.is("village(9999, 50, 50)", x.village(9999, 50, 50), 1);
        for (int i = 2; i < 12; i++) {
            c.is("village " + i, x.village(5, 1, 1), i);
        }
        c.is("a 13th village", x.village(5, 1, 1), -1);
        c.is("count(0)", x.count(0), 12);
    }

    private static void weather() {
        VillagePay x = new VillagePay();
        c.no("weather(-1, 100)", x.weather(-1, 100));
        c.no("weather(20, 100)", x.weather(20, 100));
        c.no("weather(0, -1)", x.weather(0, -1));
        c.no("weather(0, 201)", x.weather(0, 201));
        c.yes("weather(0, 0)", x.weather(0, 0));
        c.yes("weather(0, 200)", x.weather(0, 200));
        c.yes("weather(19, 7)", x.weather(19, 7));
        x.village(100, 0, 0);
        x.days(59);
        c.yes("weather on a season's last day", x.weather(0, 150));
        x.days(1);
        c.no("weather of a season that ended", x.weather(0, 100));
        c.is("come of the weather told last", x.come(0, 0), 75);
        c.yes("weather of this season", x.weather(1, 10));
    }

    private static void squeeze() {
        VillagePay x = new VillagePay();
        c.no("squeeze without a village", x.squeeze(0, 100));
        x.village(100, 0, 0);
        c.no("squeeze(-1, 100)", x.squeeze(-1, 100));
        c.no("squeeze(1, 100)", x.squeeze(1, 100));
        c.no("squeeze(0, 49)", x.squeeze(0, 49));
        c.no("squeeze(0, 151)", x.squeeze(0, 151));
        c.is("still at first", x.about(0, 4), 100);
        c.yes("squeeze(0, 50)", x.squeeze(0, 50));
        c.is("about(0, 4)", x.about(0, 4), 50);
        c.yes("squeeze(0, 150)", x.squeeze(0, 150));
        c.is("about(0, 4)", x.about(0, 4), 150);
    }

    private static void days() {
        VillagePay x = new VillagePay();
        int[] wrong = {0, -1, 201, Integer.MAX_VALUE, Integer.MIN_VALUE};
        for (int n : wrong) {
            c.is("days(" + n + ")", x.days(n), -1);
        }
        c.is("days(1)", x.days(1), 1);
        c.is("days(200)", x.days(200), 201);
        for (int i = 1; i < 5; i++) {
            x.days(200);
        }
        c.is("count(4)", x.count(4), 1001);
        c.is("days(199), one too many", x.days(199), -1);
        c.is("days(198)", x.days(198), 1199);
        c.is("days(1) behind the last", x.days(1), -1);
        c.is("the last season never ends", x.count(5), 19);
    }

    private static void come() {
        VillagePay x = new VillagePay();
        x.village(1000, 0, 0);
        x.village(800, 0, 0);
        x.squeeze(1, 150);
        x.weather(1, 50);
        c.is("come of a season that did not end", x.come(0, 0), -1);
        c.is("three seasons at once", x.days(180), 180);
        c.is("come(0, 0)", x.come(0, 0), 500);
        c.is("come(0, 1)", x.come(0, 1), 250);
        c.is("come(0, 2)", x.come(0, 2), 500);
        c.is("come(1, 0)", x.come(1, 0), 600);
        c.is("come(1, 1) with health 90", x.come(1, 1), 270);
        c.is("come(1, 2) with health 80", x.come(1, 2), 480);
        c.is("health", x.about(1, 3), 70);
        c.is("come(0, 3)", x.come(0, 3), -1);
        c.is("come(-1, 0)", x.come(-1, 0), -1);
        c.is("come(2, 0)", x.come(2, 0), -1);
        c.is("come(0, -1)", x.come(0, -1), -1);
        c.is("come(0, 20)", x.come(0, 20), -1);
    }

    private static void comeIsCutAtEachStep() {
        VillagePay x = new VillagePay();
        x.village(333, 0, 0);
        x.squeeze(0, 103);
        x.days(60);
        c.is("333 * 103 / 100 is 342", x.come(0, 0), 171);
        c.is("(103 - 100) / 5 is 0", x.about(0, 3), 100);
        x.squeeze(0, 109);
        x.days(60);
        c.is("333 * 109 / 100 is 362", x.come(0, 1), 181);
        c.is("health 99", x.about(0, 3), 99);
        x.weather(2, 77);
        x.squeeze(0, 107);
        x.days(60);
        // 333 * 99 / 100 is 329, * 77 / 100 is 253, * 107 / 100 is 270
        c.is("all cut", x.come(0, 2), 135);
        c.is("health 98", x.about(0, 3), 98);
        x.squeeze(0, 100);
        x.days(60);
        c.is("health rests, up to 100", x.about(0, 3), 100);
    }

    private static void healthStaysWithinItsBounds() {
        VillagePay x = new VillagePay();
        x.village(9999, 0, 0);
        x.squeeze(0, 147);
        for (int i = 0; i < 4; i++) {
            x.days(180);
        }
        c.is("12 seasons of 9 less", x.about(0, 3), 0);
        x.squeeze(0, 50);
        x.days(60);
        c.is("come with health 0", x.come(0, 12), 0);
        c.is("3 more", x.about(0, 3), 3);
        x.squeeze(0, 101);
        x.days(60);
        c.is("nothing less for 1 above", x.about(0, 3), 3);
        c.is("9999 * 3 / 100 is 299, * 101 / 100 is 301", x.come(0, 13), 150);
    }

    private static void aVillageThatCameLater() {
        VillagePay x = new VillagePay();
        x.days(70);
        x.village(100, 0, 0);
        c.is("nothing came of it ahead", x.come(0, 0), 0);
        x.days(50);
        c.is("the whole season in which it came", x.come(0, 1), 50);
    }

    private static void about() {
        VillagePay x = new VillagePay();
        c.is("about without villages", x.about(0, 0), -2);
        x.village(700, 11, 12);
        x.squeeze(0, 120);
        int[] want = {700, 11, 12, 100, 120, -1, 0};
        for (int what = 0; what < want.length; what++) {
            c.is("about(0, " + what + ")", x.about(0, what), want[what]);
        }
        c.is("about(0, 7)", x.about(0, 7), -2);
        c.is("about(0, -1)", x.about(0, -1), -2);
        c.is("about(-1, 0)", x.about(-1, 0), -2);
        c.is("about(1, 0)", x.about(1, 0), -2);
        x.officer(3, 0);
        x.give(0, 0, 5);
        c.is("not held yet", x.about(0, 5), -1);
        Checks.rules(x, 0, "take 119;");
        c.is("of THE CROWN, so not OVER", x.about(0, 6), 0);
        x.days(5);
        c.is("held now", x.about(0, 5), 0);
        c.is("OVER", x.about(0, 6), 1);
        x.squeeze(0, 119);
        c.is("at its TAKE, not OVER", x.about(0, 6), 0);
    }
}
