/** Train 0 at station 0, ready to enter block 0, of 10 minutes, to station 1; barred by each one of a set. */
final class Barred {
    private Barred() {
    }

    private static boolean is(int set, int bar) {
        return (set >> (bar - 1) & 1) == 1;
    }

    /** The set holds bar n in its bit n - 1; train 1 enters the block ahead for bar 3, and runs there. */
    static Ironbark by(int set) {
        Ironbark x = new Ironbark();
        x.borrow(20000);
        x.lay(0, 1, 10, 0);
        x.engine(0, 1);
        x.crew(0);
        x.form(0, 0);
        Firm.addTrain(x, 0, 9);
        if (is(set, 4)) {
            x.repair(0);
        }
        if (is(set, 3)) {
            hold(x, is(set, 4));
        }
        if (is(set, 2)) {
            x.await(0, Firm.addTrain(x, 5, 1), 0);
        }
        if (is(set, 10)) {
            Firm.addTrain(x, 1, 9);
            x.tracks(1, is(set, 3) ? 2 : 1);
        }
        barBesides(x, set);
        x.leg(0);
        x.plan(0, is(set, 1) ? 500 : 0, 0);
        return x;
    }

    private static void hold(Ironbark x, boolean isClosed) {
        Firm.send(x, 1, 0);
        if (isClosed) {
            x.passSignal(1);
        } else {
            x.run(1);
        }
    }

    private static void barBesides(Ironbark x, int set) {
        if (is(set, 5)) {
            x.fail(0, true);
        }
        if (is(set, 6)) {
            x.hours(0, 0, 1440);
        }
        if (is(set, 7)) {
            Firm.addCars(x, 0, 5);
        }
        if (!is(set, 8)) {
            x.learn(0, 0);
        }
        if (is(set, 9)) {
            x.rest(0);
        }
    }

    static String text(int set) {
        StringBuilder text = new StringBuilder("barred by");
        for (int bar = 1; bar <= 10; bar++) {
            text.append(is(set, bar) ? " " + bar : "");
        }
        return text.toString();
    }
}
