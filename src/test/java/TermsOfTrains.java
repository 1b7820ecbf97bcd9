/** What "## Terms" says of trains, of what bars them, of their ways and of a minute. */
final class TermsOfTrains {
    private TermsOfTrains() {
    }

    private static void says(String sentence) {
        Sentences.says(Sentences.TERMS, sentence);
    }

    private static void forming() {
        says("A train is formed of an engine and a crew at one station, neither with a train, the crew not at rest, if a track"
            + " is free there;");
        Ironbark x = new Ironbark();
        for (int i = 0; i < 4; i++) {
            x.engine(i / 3, 1);
            x.crew(i / 3);
        }
        Check.refused("two stations", Check.STATE, () -> x.form(0, 3));
        Check.same("one station", x.form(0, 0), 0);
        Check.refused("engine with a train", Check.STATE, () -> x.form(0, 1));
        Check.refused("crew with a train", Check.STATE, () -> x.form(1, 0));
        x.rest(1);
        Check.refused("at rest", Check.STATE, () -> x.form(1, 1));
        x.tracks(0, 1);
        Check.refused("no track", Check.STATE, () -> x.form(1, 2));
        x.tracks(0, 2);
        Check.same("a track", x.form(1, 2), 1);
        says("it has the least number from 0 on that no train has, up to 5.");
        Ironbark six = new Ironbark();
        for (int i = 0; i < 6; i++) {
            six.engine(i, 1);
            six.crew(i);
            Check.same("the next", six.form(i, i), i);
        }
        for (int free : new int[] {5, 3, 0}) {
            six.dissolve(free);
            Check.same("the one that is free", six.form(free, free), free);
        }
        six.dissolve(4);
        six.dissolve(1);
        Check.same("the least", six.form(4, 4), 1);
        Check.same("the other", six.form(1, 1), 4);
    }

    private static void carsAndStates() {
        says("Cars, at most 10, are coupled and uncoupled while it stands.");
        Ironbark x = Firm.withTrain(9);
        Firm.addCars(x, 0, 10);
        x.car(0);
        x.car(1);
        Check.refused("an 11th", Check.STATE, () -> x.couple(0, 10));
        x.uncouple(0, 0);
        Check.same("the 10th", x.couple(0, 10), 10);
        Firm.send(x, 0, 0);
        Check.same("ready, it stands", x.uncouple(0, 10), 9);
        x.run(1);
        Check.refused("it runs", Check.STATE, () -> x.couple(0, 11));
        Check.refused("it runs", Check.STATE, () -> x.uncouple(0, 1));
        says("Its weight is 2 for each empty car and 5 for each loaded one.");
        int[][] cars = {{0, 0}, {1, 0}, {0, 1}, {10, 0}, {0, 10}, {4, 6}};
        for (int[] c : cars) {
            Ironbark y = withCars(9, c[0], c[1]);
            Check.same(c[0] + " and " + c[1], y.train(0, 3), 2 * c[0] + 5 * c[1]);
        }
        Ironbark y = withCars(9, 1, 1);
        y.uncouple(0, 1);
        Check.same("without the loaded one", y.train(0, 3), 2);
        y.uncouple(0, 0);
        Check.same("without cars", y.train(0, 3), 0);
        says("It stands, without a way or ready with one, it runs, or it is wrecked.");
        Ironbark z = Firm.withTrain(9);
        Check.same("stands", z.train(0, 0), Ironbark.STANDING);
        Firm.send(z, 0, 0);
        Check.same("ready", z.train(0, 0), Ironbark.READY);
        z.run(1);
        Check.same("runs", z.train(0, 0), Ironbark.RUNNING);
        z.run(5);
        Check.same("stands", z.train(0, 0), Ironbark.STANDING);
        Check.same("wrecked", Firm.withWrecks(0, 0).train(0, 0), Ironbark.WRECKED);
    }

    /** A train at station 0 with so many empty and loaded cars, and block 0 of 5 minutes to station 1. */
    private static Ironbark withCars(int power, int empty, int loaded) {
        return withCars(power, empty, loaded, 5, 0);
    }

    private static Ironbark withCars(int power, int empty, int loaded, int minutes, int grade) {
        Ironbark x = new Ironbark();
        x.lay(0, 1, minutes, grade);
        Firm.addTrain(x, 0, power);
        Firm.addCars(x, 0, empty);
        for (int i = 0; i < loaded; i++) {
            int car = x.car(0);
            x.load(car, x.offer(0, 1));
            x.couple(0, car);
        }
        return x;
    }

    static int minutesInBlock(int minutes, int power, int empty, int loaded) {
        Ironbark x = withCars(power, empty, loaded, minutes, 0);
        Firm.send(x, 0, 0);
        x.run(1);
        return x.train(0, 6) - 1;
    }

    private static void ways() {
        says("A way is 1 to 8 blocks, each from where the train is then to the other end, with a minute ahead of which it does"
            + " not begin, and a rank, 0 to 9.");
        Ironbark x = Firm.withTrain(9);
        Check.refused("none", Check.STATE, () -> x.plan(0, 0, 0));
        x.leg(0);
        Check.same("one", x.plan(0, 3, 9), 1);
        for (int i = 0; i < 8; i++) {
            x.leg(0);
        }
        Check.refused("a 9th", Check.STATE, () -> x.leg(0));
        Check.same("eight", x.plan(0, 3, 9), 0);
        Check.same("ahead of its minute", x.run(2), 0);
        Check.same("in its minute", x.run(1), 1);
        x.lay(2, 3, 2, 0);
        x.run(300);
        x.leg(1);
        Check.refused("from elsewhere", Check.STATE, () -> x.plan(0, 0, 0));
    }

    private static void bar(String what, Ironbark x, int due) {
        Check.same(what, x.barred(0), due);
    }

    private static void firstOfTheBars() {
        says("A train that is ready enters the next block of its way, if nothing bars it; what bars it is told by the first one"
            + " of these:");
        for (int set = 0; set < 1 << 10; set++) {
            Ironbark x = Barred.by(set);
            int first = set == 0 ? 0 : 1 + Integer.numberOfTrailingZeros(set);
            bar(Barred.text(set), x, first);
            x.run(1);
            int state = x.train(0, 0);
            Check.same(Barred.text(set), state, first == 0 ? Ironbark.RUNNING : Ironbark.READY);
        }
    }

    private static void barsOfTheStart() {
        says("1 its minute has not come, and it is the first block of its way;");
        Ironbark x = Firm.withTrain(9);
        x.leg(0);
        x.leg(0);
        x.plan(0, 9, 0);
        x.run(8);
        bar("a minute ahead of it", x, 1);
        Check.same("it has come", x.run(1), 1);
        x.run(5);
        bar("the second block", x, 3);
        x.run(6);
        x.leg(0);
        x.plan(0, 21, 0);
        bar("the first block of the next way", x, 1);
        x.leg(0);
        x.plan(0, 20, 0);
        bar("it is this minute", x, 3);
        x.run(1);
        Check.same("it has come", x.train(0, 0), Ironbark.RUNNING);
        says("2 the station is the one at which it waits for another train, and no train of that number stands there;");
        Ironbark y = waiting();
        bar("it stands elsewhere", y, 2);
        Firm.send(y, 1, 0);
        bar("it is ready elsewhere", y, 2);
        y.run(1);
        bar("it runs to there", y, 2);
        y.run(4);
        bar("it runs to there, for its last minute", y, 2);
        y.run(1);
        bar("it stands there, not clear", y, 3);
        y = waiting();
        Firm.send(y, 1, 0);
        y.run(6);
        Firm.send(y, 1, 0);
        bar("it is ready there", y, 3);
        waitsForOneThatIsGone();
        says("3 the block is held, by another train or by itself;");
        bar("by another one that runs", withTrainAhead(1), 3);
        bar("by another one that is not clear", withTrainAhead(6), 3);
        bar("it is clear", withTrainAhead(7), 0);
        bar("by itself", withTrainBack(5), 3);
        Check.same("it is clear", withTrainBack(6).train(0, 5), 0);
    }

    /** Train 0 is ready at station 0, and waits there for train 1, which is at station 1. */
    private static Ironbark waiting() {
        Ironbark x = Firm.withTrain(9);
        Firm.addTrain(x, 1, 9);
        Firm.send(x, 0, 0);
        bar("waits for none", x, 0);
        x.await(0, 1, 1);
        bar("waits elsewhere", x, 0);
        x.await(0, 1, 0);
        return x;
    }

    private static void waitsForOneThatIsGone() {
        Ironbark x = Firm.withTrain(9);
        int other = Firm.addTrain(x, 0, 9);
        Firm.send(x, 0, 0);
        x.await(0, other, 0);
        bar("it stands there", x, 0);
        x.dissolve(other);
        bar("none has this number", x, 2);
        x.engine(0, 1);
        x.crew(0);
        x.form(2, 2);
        bar("another one has this number", x, 0);
    }

    /** Train 1 entered block 0 ahead of train 0, in minute 1; it is this minute now. */
    private static Ironbark withTrainAhead(int minute) {
        Ironbark x = Firm.withTrain(9);
        Firm.addTrain(x, 0, 9);
        Firm.send(x, 1, 0);
        x.run(minute);
        Firm.send(x, 0, 0);
        return x;
    }

    /** Goes there and back; so many minutes since it entered the block. */
    private static Ironbark withTrainBack(int minutes) {
        Ironbark x = Firm.withTrain(9);
        Firm.send(x, 0, 0, 0);
        x.run(1 + minutes);
        return x;
    }

    private static void barsOfTheBlock() {
        says("4 it is closed;");
        Ironbark x = Firm.withTrain(9);
        x.repair(0);
        Firm.send(x, 0, 0);
        bar("at once", x, 4);
        x.run(29);
        bar("for the 30th minute", x, 4);
        Check.same("open", x.run(1), 1);
        Ironbark wrecks = Firm.withWrecks(0, 0);
        Firm.addTrain(wrecks, 0, 9);
        Firm.send(wrecks, 2, 0);
        Check.same("by wrecks", wrecks.barred(2), 4);
        wrecks.run(300);
        Check.same("by wrecks, for long", wrecks.barred(2), 4);
        wrecks.clear(0);
        Check.same("cleared", wrecks.barred(2), 0);
        says("5 its signal has failed, and it is not flagged;");
        Ironbark y = Firm.withTrain(9);
        Firm.send(y, 0, 0);
        bar("has not failed", y, 0);
        y.fail(0, true);
        bar("has failed", y, 5);
        y.flag(0);
        bar("is flagged", y, 0);
        y.fail(0, true);
        bar("the flag is gone", y, 5);
        y.fail(0, false);
        bar("is mended", y, 0);
        y.lay(0, 1, 5, 0);
        y.fail(1, true);
        bar("that of another block", y, 0);
    }

    /** Enters at such a minute of the second day, with 4 cars: 5 minutes by 9, and 2 behind its arrival. */
    private static int barOfHours(int minute, int from, int to) {
        Ironbark x = withCars(9, 4, 0);
        Firm.runFor(x, 1440 + minute);
        Firm.send(x, 0, 0);
        x.hours(0, from, to);
        return x.barred(0);
    }

    private static void barOfOthers() {
        says("6 one of the minutes from now on, now with them, and ahead of that in which it would be clear, is of the hours of"
            + " others;");
        Check.same("the minute before", barOfHours(50, 49, 50), 0);
        Check.same("now", barOfHours(50, 50, 51), 6);
        Check.same("until now, with it", barOfHours(50, 0, 51), 6);
        Check.same("until now, without it", barOfHours(50, 0, 50), 0);
        Check.same("in the midst", barOfHours(50, 53, 54), 6);
        Check.same("as it arrives", barOfHours(50, 55, 56), 6);
        Check.same("the minute ahead of that in which it would be clear", barOfHours(50, 56, 57), 6);
        Check.same("that in which it would be clear", barOfHours(50, 57, 58), 0);
        Check.same("from then on", barOfHours(50, 57, 1440), 0);
        Check.same("all but these", barOfHours(0, 7, 1440), 0);
        Check.same("it would be clear as the day ends", barOfHours(1433, 0, 1433), 0);
        Check.same("the first minute of the next day", barOfHours(1434, 0, 1), 6);
        Check.same("not yet that of the next day", barOfHours(1433, 0, 1), 0);
        Check.same("the last one of this day", barOfHours(1438, 1439, 1440), 6);
        Check.same("over the end of the day", barOfHours(1438, 5, 1438), 0);
        Check.same("over the end of the day, one more", barOfHours(1438, 4, 1438), 6);
        Check.same("over the end of the day, one more", barOfHours(1438, 5, 1439), 6);
        Check.same("none", barOfHours(50, 52, 52), 0);
        Check.same("none, over the end of the day", barOfHours(1438, 2, 2), 0);
        Check.same("the whole day", barOfHours(50, 0, 1440), 6);
        Ironbark x = Firm.withTrain(9);
        x.fail(0, true);
        x.flag(0);
        Firm.send(x, 0, 0);
        x.hours(0, 10, 11);
        bar("twice as long, as it arrives", x, 6);
        x.hours(0, 11, 12);
        bar("twice as long, as it would be clear", x, 0);
    }

    private static void barsOfTheLoad() {
        says("7 its weight is above its power times the sum of 8 less 2 times the grade;");
        // Power, grade, empty cars, loaded cars, and whether it is too much.
        int[][] due = {{1, 0, 4, 0, 0}, {1, 0, 2, 1, 7}, {1, 1, 3, 0, 0}, {1, 1, 1, 1, 7}, {1, 2, 2, 0, 0}, {1, 2, 0, 1, 7},
            {1, 3, 1, 0, 0}, {1, 3, 2, 0, 7}, {2, 0, 3, 2, 0}, {2, 0, 1, 3, 7}, {5, 3, 0, 2, 0}, {5, 3, 3, 1, 7},
            {9, 3, 9, 0, 0}, {9, 3, 2, 3, 7}, {9, 2, 0, 7, 0}, {9, 2, 1, 7, 7}, {9, 1, 0, 10, 0}, {9, 0, 0, 10, 0}};
        for (int[] d : due) {
            Ironbark x = withCars(d[0], d[2], d[3], 5, d[1]);
            Firm.send(x, 0, 0);
            bar("power " + d[0] + ", grade " + d[1] + ", weight " + x.train(0, 3), x, d[4]);
        }
        says("8 its crew does not know the block;");
        Ironbark y = new Ironbark();
        y.lay(0, 1, 5, 0);
        y.lay(0, 1, 5, 0);
        y.engine(0, 9);
        y.crew(0);
        y.crew(0);
        y.form(0, 0);
        Firm.send(y, 0, 0);
        bar("none", y, 8);
        y.learn(0, 1);
        bar("another one", y, 8);
        y.learn(1, 0);
        bar("another crew does", y, 8);
        y.learn(0, 0);
        bar("it does", y, 0);
    }

    /** A crew with a duty of 600 less so many minutes; block 1 has so many more that it would be one above. */
    private static Ironbark withDuty(int left) {
        Ironbark x = new Ironbark();
        x.borrow(20000);
        x.lay(0, 1, 60, 0);
        x.lay(0, 1, 60 - left, 0);
        x.lay(0, 1, left, 0);
        x.lay(0, 1, left + 1, 0);
        Firm.addTrain(x, 0, 9);
        for (int i = 0; i < 9; i++) {
            Firm.send(x, 0, 0);
            x.run(62);
        }
        Firm.send(x, 0, 1);
        x.run(62);
        Check.same("duty", x.duty(0), 600 - left);
        return x;
    }

    private static void barsOfTheCrew() {
        says("9 its crew is at rest, or its duty would be above 600 then;");
        for (int left : new int[] {2, 30, 58}) {
            Ironbark x = withDuty(left);
            Firm.send(x, 0, 3);
            bar("601", x, 9);
            Firm.send(x, 0, 2);
            bar("600", x, 0);
            x.fail(2, true);
            x.flag(2);
            bar("above 600, as it would run twice as long", x, 9);
        }
        Ironbark x = withDuty(20);
        x.rest(0);
        Firm.send(x, 0, 3);
        bar("at rest", x, 9);
        Firm.runFor(x, 479);
        bar("at rest, for its last minute", x, 9);
        Check.same("rested, it enters", x.run(1), 1);
        Check.same("with a duty from 0 on", x.duty(0), 21);
        says("10 no track is free at the other end.");
        Ironbark y = Firm.withTrain(9);
        Firm.addTrain(y, 1, 9);
        Firm.send(y, 0, 0);
        bar("one of two", y, 0);
        y.tracks(1, 1);
        bar("one of one", y, 10);
        y.tracks(1, 2);
        Firm.addTrain(y, 1, 9);
        bar("two of two", y, 10);
        y.dissolve(2);
        y.lay(2, 1, 50, 0);
        Firm.addTrain(y, 2, 9);
        bar("one", y, 0);
        Firm.send(y, 2, 1);
        y.leg(0);
        y.plan(0, 2, 0);
        y.run(1);
        bar("one runs there", y, 1);
        y.run(1);
        bar("one stands, one runs there", y, 10);
        Firm.send(y, 1, 0);
        y.run(1);
        Check.same("one has left", y.freeTracks(1), 1);
    }

    private static void minutes() {
        says("It runs as many minutes as the block has, and besides these times its weight, divided by 10 times its power, and"
            + " as many as the block has once more, if there is a slow order;");
        // Minutes of the block, power, empty cars, loaded cars, and the minutes that it runs.
        int[][] due = {{2, 9, 0, 0, 2}, {60, 1, 0, 0, 60}, {60, 1, 4, 0, 108}, {60, 9, 0, 10, 93}, {2, 1, 2, 0, 2},
            {2, 1, 0, 1, 3}, {5, 1, 1, 0, 6}, {5, 1, 0, 1, 7}, {5, 1, 3, 0, 8}, {29, 7, 10, 0, 37}, {44, 9, 0, 1, 46},
            {45, 9, 0, 1, 47}, {45, 9, 1, 0, 46}, {44, 9, 1, 0, 44}};
        for (int[] d : due) {
            Check.same("minutes", minutesInBlock(d[0], d[1], d[2], d[3]), d[4]);
        }
        Check.same("with a slow order", minutesAfterWear(false), 12 + 10);
        says("twice all that, if the signal has failed.");
        Check.same("with a slow order", minutesAfterWear(true), 2 * (12 + 10));
        for (int[] d : due) {
            Ironbark x = withCars(d[1], d[2], d[3], d[0], 0);
            x.fail(0, true);
            Firm.send(x, 0, 0);
            Check.same("it passes", x.passSignal(0), true);
            Check.same("twice the minutes", x.train(0, 6), 2 * d[4]);
        }
    }

    /** In a block of 10 minutes with a wear of 66, with ten cars by power 9. */
    private static int minutesAfterWear(boolean fails) {
        Ironbark x = withCars(9, 10, 0, 10, 0);
        for (int i = 0; i < 6; i++) {
            Firm.send(x, 0, 0);
            x.run(17);
        }
        x.fail(0, fails);
        if (fails) {
            x.flag(0);
        }
        Firm.send(x, 0, 0);
        x.run(1);
        return x.train(0, 6) - x.clock();
    }

    private static void arrivals() {
        says("When it arrives, the wear of the block grows by 1 and the number of its cars.");
        for (int cars : new int[] {0, 1, 10}) {
            Ironbark x = withCars(9, cars, 0);
            Firm.send(x, 0, 0);
            x.run(1);
            int arrival = x.train(0, 6);
            x.run(arrival - 2);
            Check.same("ahead of it", x.block(0, 0), 0);
            x.run(1);
            Check.same("as it arrives with " + cars, x.block(0, 0), 1 + cars);
        }
        Ironbark loaded = withCars(9, 1, 2);
        Firm.send(loaded, 0, 0);
        loaded.run(6);
        Check.same("loaded or not", loaded.block(0, 0), 4);
        says("It is clear of the block 1 minute, and 1 for each four of the cars with which it arrives, behind its arrival.");
        int[] behind = {1, 1, 1, 1, 2, 2, 2, 2, 3, 3, 3};
        for (int cars = 0; cars <= 10; cars++) {
            Ironbark x = withCars(9, cars, 0);
            Firm.send(x, 0, 0);
            x.run(1);
            x.run(x.train(0, 6) - 1 + behind[cars] - 1);
            Check.same("not with " + cars, x.holder(0) * 10 + x.holderByTrains(0), 0);
            x.run(1);
            Check.same("with " + cars, x.holder(0) + x.holderByTrains(0), -2);
        }
        clearWithOtherCarsThen();
        says("A train that waits does so at one station, until it leaves that.");
        leavesWhereItWaits();
    }

    /** Train 1 waits at station 0 for train 0, later at 1: to leave one station does not end what it waits for at the other. */
    private static void leavesWhereItWaits() {
        Ironbark x = Firm.withTrain(9);
        int waits = Firm.addTrain(x, 0, 9);
        x.await(waits, 0, 0);
        Firm.send(x, waits, 0, 0, 0);
        x.run(1);
        Check.same("the other one stands there", x.train(waits, 1), 1);
        x.run(6);
        x.dissolve(0);
        x.run(5);
        Check.same("back there", x.train(waits, 0) * 10 + x.train(waits, 1), 10);
        Check.same("it waits no more", x.barred(waits), 3);
        x.form(0, 0);
        x.await(waits, 0, 1);
        x.run(1);
        Check.same("it leaves for where it waits", x.train(waits, 0) * 10 + x.train(waits, 1), 21);
        x.run(6);
        Firm.send(x, waits, 0);
        Check.same("there it waits", x.barred(waits), 2);
    }

    /** What it has as it arrives counts, not what it has then. */
    private static void clearWithOtherCarsThen() {
        Ironbark x = withCars(9, 4, 0);
        Firm.send(x, 0, 0);
        x.run(6);
        x.uncouple(0, 0);
        x.run(1);
        Check.same("four came, three are left", x.holder(0), 0);
        x.run(1);
        Check.same("2 minutes behind", x.holder(0), Ironbark.NONE);
        Ironbark y = withCars(9, 3, 0);
        y.car(1);
        Firm.send(y, 0, 0);
        y.run(6);
        y.couple(0, 3);
        Check.same("three came, then one more", y.holder(0), 0);
        y.run(1);
        Check.same("1 minute behind", y.holder(0), Ironbark.NONE);
    }

    static void tests() {
        forming();
        carsAndStates();
        ways();
        firstOfTheBars();
        barsOfTheStart();
        barsOfTheBlock();
        barOfOthers();
        barsOfTheLoad();
        barsOfTheCrew();
        minutes();
        arrivals();
    }
}
