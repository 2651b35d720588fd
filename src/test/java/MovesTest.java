/** Promises 27 to 30: moves, their row, and who is idle. */
public final class MovesTest {
    private static final Checks c = new Checks("MovesTest");

    public static void main(String[] args) {
        move();
        stay();
        chain();
        circle();
        twoCircles();
        allThatAnOfficerHeld();
        itsOwnVillage();
        theFirstAgain();
        changesNothing();
        c.finish();
    }

    private static VillagePay of(int villages, int officers) {
        VillagePay x = new VillagePay();
        for (int i = 0; i < villages; i++) {
            x.village(10, 0, 0);
        }
        for (int i = 0; i < officers; i++) {
            x.officer(0, 0);
        }
        return x;
    }

    private static void row(VillagePay x, int idle, int... places) {
        c.is("idle()", x.idle(), idle);
        for (int i = 0; i < places.length; i++) {
            c.is("moved(" + i + ")", x.moved(i), places[i]);
        }
        c.is("moved(-1)", x.moved(-1), -1);
        c.is("moved behind the last", x.moved(places.length), -1);
    }

    private static void move() {
        VillagePay x = of(12, 9);
        c.is("move(-1, 0)", x.move(-1, 0), -1);
        c.is("move(9, 0)", x.move(9, 0), -1);
        c.is("move(0, -1)", x.move(0, -1), -1);
        c.is("move(0, 12)", x.move(0, 12), -1);
        c.is("move(0, 5)", x.move(0, 5), 0);
        c.is("an officer that has one", x.move(0, 6), -1);
        c.is("a village that has one", x.move(1, 5), -1);
        c.is("move(1, 6)", x.move(1, 6), 1);
        x.dies(2);
        c.is("a dead officer", x.move(2, 7), -1);
        c.is("count(6)", x.count(6), 2);
        row(x, 0, 0, 1);
        for (int officer = 3; officer < 9; officer++) {
            // the last one would go to village 5, which has a move
            c.is("move of " + officer, x.move(officer, officer - 3), officer == 8 ? -1 : officer - 1);
        }
    }

    private static void stay() {
        VillagePay x = of(3, 3);
        x.move(0, 1);
        x.move(1, 2);
        x.stay();
        c.is("count(6)", x.count(6), 0);
        row(x, 0);
        c.is("its number is 0 again", x.move(1, 1), 0);
    }

    private static void chain() {
        VillagePay x = of(4, 3);
        for (int i = 0; i < 3; i++) {
            x.give(i, i, 0);
        }
        x.move(0, 1);
        x.move(1, 2);
        x.move(2, 3);
        row(x, 0, 2, 1, 0);
        x.give(3, 0, 0);
        // 0 holds 0 and 3 now, so all wait for another: a circle
        row(x, 1, 0, 2, 1);
    }

    private static void circle() {
        VillagePay x = of(3, 3);
        for (int i = 0; i < 3; i++) {
            x.give(i, i, 0);
            x.move(i, (i + 1) % 3);
        }
        // 1 loses its village; 0 goes there, then 2, then 1
        row(x, 1, 0, 2, 1);
    }

    private static void twoCircles() {
        VillagePay x = of(5, 5);
        for (int i = 0; i < 5; i++) {
            x.give(i, i, 0);
        }
        x.move(0, 1);
        x.move(2, 3);
        x.move(1, 0);
        x.move(3, 2);
        row(x, 2, 0, 2, 1, 3);
        x.stay();
        x.move(0, 4);
        row(x, 1, 0);
    }

    private static void allThatAnOfficerHeld() {
        VillagePay x = of(5, 4);
        x.give(0, 0, 0);
        x.give(1, 0, 0);
        x.give(2, 0, 0);
        x.move(1, 0);
        x.move(2, 1);
        x.move(3, 2);
        row(x, 1, 0, 1, 2);
        x.move(0, 3);
        row(x, 0, 3, 0, 1, 2);
    }

    private static void itsOwnVillage() {
        VillagePay x = of(3, 2);
        x.give(0, 0, 0);
        x.give(1, 0, 0);
        x.move(1, 1);
        x.move(0, 0);
        // 0 stays, and what else it held is free then
        row(x, 0, 1, 0);
    }

    private static void theFirstAgain() {
        VillagePay x = of(6, 4);
        x.give(0, 1, 0);
        x.move(0, 0);
        x.move(1, 1);
        x.move(2, 2);
        x.move(3, 3);
        // 1 goes, then the first one can be done, ahead of the ones behind
        row(x, 0, 1, 0, 2, 3);
    }

    private static void changesNothing() {
        VillagePay x = of(2, 2);
        x.give(0, 0, 0);
        x.give(1, 1, 0);
        x.move(0, 1);
        x.move(1, 0);
        row(x, 1, 0, 1);
        c.is("holder of 0", x.about(0, 5), 0);
        c.is("holder of 1", x.about(1, 5), 1);
        c.is("orders", x.count(2), 2);
        row(x, 1, 0, 1);
        x.give(1, -1, 0);
        row(x, 0, 0, 1);
        x.give(1, 1, 0);
        x.dies(1);
        row(x, 0, 0, 1);
        VillagePay y = of(2, 2);
        y.give(0, 1, 0);
        y.move(0, 0);
        y.move(1, 1);
        c.is("moved(0) ahead of any idle()", y.moved(0), 1);
    }
}
