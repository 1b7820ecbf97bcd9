/** Promises 1 to 14, sentence by sentence: values just inside and just outside, and calls that are refused. */
public final class EdgesBuildingTest {
    private static final String NO_STATION = "Throws `IndexOutOfBoundsException` if there is no such station";
    private static final String NO_BLOCK = "Throws `IndexOutOfBoundsException` if there is no such block";
    private static final String NO_CREW = "Throws `IndexOutOfBoundsException` if there is no such crew";
    private static final String POWER = "Throws `IllegalArgumentException` if power is out of range";
    private static final String AMOUNT = "Throws `IllegalArgumentException` if amount is out of range";
    private static final String SIX = "Throws `IllegalStateException` if there are 6";

    private EdgesBuildingTest() {
    }

    private static void promise1ANewObject() {
        Sentences.says(1, "No blocks, engines, crews and cars; no debt.");
        Edges.noSuch(Ironbark::new, 0, (x, block) -> x.holder(block));
        Edges.noSuch(Ironbark::new, 0, (x, crew) -> x.duty(crew));
        Edges.noSuch(Ironbark::new, 0, (x, car) -> x.carAt(car));
        Edges.noSuch(Ironbark::new, 0, (x, train) -> x.train(train, 0));
        Edges.refused("no engine", () -> withCrewsAt(0), Check.INDEX, x -> x.form(0, 0));
        Ironbark x = new Ironbark();
        Check.same("debt", x.debt(), 0);
        Check.same("first block", x.lay(0, 1, 2, 0), 0);
        Check.same("first engine", x.engine(0, 1), 0);
        Check.same("first crew", x.crew(0), 0);
        Check.same("first car", x.car(0), 0);
        Check.same("first bill", x.offer(0, 1), 0);
        Check.same("first train", x.form(0, 0), 0);
    }

    /** A crew at each of these stations. */
    private static Ironbark withCrewsAt(int... stations) {
        Ironbark x = new Ironbark();
        for (int station : stations) {
            x.crew(station);
        }
        return x;
    }

    private static void promise2Tracks() {
        Sentences.says(2, "Sets how many tracks a station has.");
        Ironbark x = new Ironbark();
        x.tracks(3, 4);
        Check.same("the station", x.freeTracks(3), 4);
        Check.same("the one ahead of it", x.freeTracks(2), 2);
        Check.same("the one behind it", x.freeTracks(4), 2);
        Sentences.says(2, "`station`: 0 to 7");
        Edges.inside(Firm::busy, (y, station) -> y.tracks(station, 3), 0, 7);
        Sentences.says(2, "`tracks`: 1 to 4");
        Edges.inside(Firm::busy, (y, tracks) -> y.tracks(7, tracks), 1, 2, 3, 4);
        x.tracks(3, 1);
        Check.same("one", x.freeTracks(3), 1);
        Sentences.says(2, "Returns how many it had.");
        Check.same("at first", x.tracks(7, 4), 2);
        Check.same("the most", x.tracks(7, 1), 4);
        Check.same("the least", x.tracks(7, 1), 1);
        Sentences.says(2, NO_STATION);
        Edges.noSuch(Firm::busy, 8, (y, station) -> y.tracks(station, 2));
        Edges.refused("tracks out of range too", Firm::busy, Check.INDEX, y -> y.tracks(8, 0));
        Edges.refused("tracks out of range too", Firm::busy, Check.INDEX, y -> y.tracks(-1, 5));
        Sentences.says(2, "Throws `IllegalArgumentException` if tracks is out of range");
        Edges.outside(Firm::busy, 1, 4, (y, tracks) -> y.tracks(7, tracks));
        Edges.refused("more are taken too", Firm::full, Check.ARGUMENT, y -> y.tracks(0, 0));
        promise2MoreAreTaken();
    }

    private static void promise2MoreAreTaken() {
        Sentences.says(2, "Throws `IllegalStateException` if more are taken");
        Edges.refused("two stand", Firm::full, Check.STATE, x -> x.tracks(0, 1));
        Edges.inside(Firm::full, (x, tracks) -> x.tracks(0, tracks), 2, 3, 4);
        Edges.refused("one stands, one runs there", Firm::busy, Check.STATE, x -> x.tracks(1, 1));
        Edges.inside(Firm::busy, (x, tracks) -> x.tracks(1, tracks), 2);
        // Where train 0 was, none is any more.
        Edges.inside(Firm::busy, (x, tracks) -> x.tracks(0, tracks), 1);
        Edges.inside(() -> Firm.withWrecks(0, 0), (x, station) -> x.tracks(station, 1), 0, 1);
    }

    private static Ironbark withBlocks(int count) {
        Ironbark x = new Ironbark();
        for (int i = 0; i < count; i++) {
            x.lay(0, 1, 2, 0);
        }
        return x;
    }

    private static void promise3Lay() {
        Sentences.says(3, "Lays a block.");
        Ironbark x = withBlocks(1);
        Check.same("it is", x.holder(0), Ironbark.NONE);
        Check.same("cost of 2 minutes", x.cash(), 4800);
        Sentences.says(3, "`first`: 0 to 7");
        Edges.inside(Firm::busy, (y, first) -> y.lay(first, 3, 2, 0), 0, 7);
        Sentences.says(3, "`second`: 0 to 7, another one");
        Edges.inside(Firm::busy, (y, second) -> y.lay(3, second, 2, 0), 0, 2, 4, 7);
        Sentences.says(3, "`minutes`: 2 to 60");
        Check.same("2 minutes", arrivalOver(2, 0), 1 + 2);
        Check.same("60 minutes", arrivalOver(60, 0), 1 + 60);
        Sentences.says(3, "`grade`: 0 to 3");
        Check.same("grade 0", arrivalOver(5, 0), 1 + 5);
        Check.same("grade 3", arrivalOver(5, 3), 1 + 5);
        Sentences.says(3, "Returns its number.");
        Check.same("the second", x.lay(1, 0, 60, 3), 1);
        Check.same("the last", withBlocks(15).lay(6, 7, 2, 0), 15);
        Sentences.says(3, NO_STATION);
        Edges.noSuch(Firm::busy, 8, (y, first) -> y.lay(first, 0, 2, 0));
        Edges.noSuch(Firm::busy, 8, (y, second) -> y.lay(0, second, 2, 0));
        Edges.refused("the same", Firm::busy, Check.INDEX, y -> y.lay(8, 8, 2, 0));
        Edges.refused("minutes out of range too", Firm::busy, Check.INDEX, y -> y.lay(-1, 0, 1, 0));
        Edges.refused("grade out of range too", Firm::busy, Check.INDEX, y -> y.lay(0, -1, 2, 4));
        Edges.refused("there are 16 too", Firm::full, Check.INDEX, y -> y.lay(0, 8, 2, 0));
        promise3OutOfRange();
    }

    private static int arrivalOver(int minutes, int grade) {
        Ironbark x = new Ironbark();
        x.lay(7, 0, minutes, grade);
        Firm.addTrain(x, 0, 1);
        Firm.send(x, 0, 0);
        x.run(1);
        return x.train(0, 6);
    }

    private static void promise3OutOfRange() {
        Sentences.says(3, "Throws `IllegalArgumentException` if both are the same, or minutes or grade is out of range");
        Edges.refused("both 0", Firm::busy, Check.ARGUMENT, x -> x.lay(0, 0, 2, 0));
        Edges.refused("both 7", Firm::busy, Check.ARGUMENT, x -> x.lay(7, 7, 60, 3));
        Edges.outside(Firm::busy, 2, 60, (x, minutes) -> x.lay(0, 1, minutes, 0));
        Edges.outside(Firm::busy, 0, 3, (x, grade) -> x.lay(0, 1, 2, grade));
        Edges.refused("the same, of 16", Firm::full, Check.ARGUMENT, x -> x.lay(1, 1, 2, 0));
        Edges.refused("minutes, of 16", Firm::full, Check.ARGUMENT, x -> x.lay(0, 1, 61, 0));
        Edges.refused("grade, of 16", Firm::full, Check.ARGUMENT, x -> x.lay(0, 1, 60, 4));
        Sentences.says(3, "Throws `IllegalStateException` if there are 16");
        Edges.refused("a 17th", Firm::full, Check.STATE, x -> x.lay(0, 1, 2, 0));
        Edges.refused("a 17th", () -> withBlocks(16), Check.STATE, x -> x.lay(6, 7, 60, 3));
        Edges.inside(() -> withBlocks(15), (x, station) -> x.lay(station, 1, 2, 0), 0);
    }

    private static void promise4Fail() {
        Sentences.says(4, "Lets the signal of a block fail, or mends it; a flag is gone then.");
        Ironbark x = Firm.withTrain(1);
        Firm.send(x, 0, 0);
        x.fail(0, true);
        Check.same("failed", x.barred(0), 5);
        x.flag(0);
        x.fail(0, true);
        Check.same("a flag is gone as it fails", x.block(0, 2) * 10 + x.barred(0), 5);
        x.flag(0);
        x.fail(0, false);
        Check.same("a flag is gone as it is mended", x.block(0, 2) * 10 + x.barred(0), 0);
        x.fail(0, true);
        Check.same("no flag from ahead", x.block(0, 2) * 10 + x.barred(0), 5);
        Sentences.says(4, "`block`: its number");
        Edges.inside(Firm::full, (y, block) -> y.fail(block, true), 0, 15);
        Sentences.says(4, "`fails`: whether it fails");
        x.fail(0, false);
        Check.same("it does not", x.barred(0), 0);
        Sentences.says(4, "Returns whether it had failed.");
        Check.same("it had not", x.fail(0, false), false);
        Check.same("it had not, and fails", x.fail(0, true), false);
        Check.same("it had, and fails", x.fail(0, true), true);
        Check.same("it had, and is mended", x.fail(0, false), true);
        Sentences.says(4, NO_BLOCK);
        Edges.noSuch(Firm::busy, 4, (y, block) -> y.fail(block, true));
        Edges.noSuch(Firm::full, 16, (y, block) -> y.fail(block, false));
    }

    private static Ironbark withSignal(boolean fails) {
        Ironbark x = Firm.withTrain(1);
        x.fail(0, fails);
        return x;
    }

    private static void promise5Flag() {
        Sentences.says(5, "Flags a block for one train.");
        Ironbark x = withSignal(true);
        Firm.addTrain(x, 0, 1);
        Firm.send(x, 0, 0);
        Firm.send(x, 1, 0);
        x.flag(0);
        Check.same("flagged", x.block(0, 2), 1);
        Check.same("one enters", x.run(1), 1);
        Check.same("not flagged for the other", x.block(0, 2), 0);
        x.run(11);
        Check.same("which is barred", x.barred(1), 5);
        Sentences.says(5, "`block`: its number");
        Ironbark full = Firm.full();
        full.fail(15, true);
        full.flag(15);
        Check.same("the last", full.block(15, 2) * 10 + full.block(14, 2), 10);
        Sentences.says(5, NO_BLOCK);
        Edges.noSuch(Firm::busy, 4, Ironbark::flag);
        Edges.noSuch(Firm::full, 16, Ironbark::flag);
        Sentences.says(5, "Throws `IllegalStateException` if its signal has not failed, or it is flagged");
        Edges.refused("has not failed", Firm::busy, Check.STATE, y -> y.flag(0));
        Edges.refused("is mended", () -> withSignal(false), Check.STATE, y -> y.flag(0));
        Edges.refused("is flagged", Firm::busy, Check.STATE, y -> y.flag(3));
        Edges.inside(() -> withSignal(true), Ironbark::flag, 0);
    }

    /** A train that is ready, which would run in block 0 from a minute on, be there 5 minutes on, and clear in the sixth. */
    private static int barOfHours(int minute, int from, int to) {
        Ironbark x = Firm.withTrain(1);
        Firm.runFor(x, minute);
        Firm.send(x, 0, 0);
        x.hours(0, from, to);
        return x.barred(0);
    }

    private static void promise6Hours() {
        Sentences.says(6, "Gives a block hours of others, in place of those that it had.");
        Ironbark x = Firm.withTrain(1);
        Firm.send(x, 0, 0);
        x.hours(0, 0, 10);
        Check.same("has them", x.barred(0), 6);
        x.hours(0, 10, 20);
        Check.same("in place of them", x.barred(0), 0);
        Sentences.says(6, "`block`: its number");
        Edges.inside(Firm::full, (y, block) -> y.hours(block, 1, 2), 0, 15);
        Sentences.says(6, "`from`: 0 to 1440");
        Check.same("the first minute alone", barOfHours(0, 0, 1), 6);
        Check.same("the last minute alone", barOfHours(1436, 1439, 1440), 6);
        Edges.inside(Firm::busy, (y, from) -> y.hours(0, from, 1440), 0, 1439, 1440);
        Sentences.says(6, "`to`: from to 1440; from for none");
        Check.same("the whole day", barOfHours(700, 0, 1440), 6);
        for (int none : new int[] {0, 3, 1440}) {
            Check.same("none, of " + none, barOfHours(0, none, none), 0);
            Check.same("none, of " + none + ", at the end of a day", barOfHours(1438, none, none), 0);
        }
        Edges.inside(Firm::busy, (y, to) -> y.hours(0, 3, to), 3, 4, 1440);
        Sentences.says(6, NO_BLOCK);
        Edges.noSuch(Firm::busy, 4, (y, block) -> y.hours(block, 0, 10));
        Edges.refused("out of range too", Firm::busy, Check.INDEX, y -> y.hours(4, -1, 1441));
        Sentences.says(6, "Throws `IllegalArgumentException` if from or to is out of range");
        Edges.outside(Firm::busy, 0, 1440, (y, from) -> y.hours(2, from, 1440));
        Edges.outside(Firm::busy, 0, 1440, (y, from) -> y.hours(2, from, from));
        Edges.outside(Firm::busy, 3, 1440, (y, to) -> y.hours(2, 3, to));
        Edges.outside(Firm::busy, 1440, 1440, (y, to) -> y.hours(2, 1440, to));
    }

    /** Block 0 has a wear of 4, and is free since minute 7, which it is. */
    private static Ironbark withWear() {
        Ironbark x = Firm.withTrain(9);
        Firm.addCars(x, 0, 3);
        Firm.send(x, 0, 0);
        x.run(7);
        return x;
    }

    private static Ironbark repairedFor(int minutes) {
        Ironbark x = withWear();
        x.repair(0);
        x.run(minutes);
        return x;
    }

    private static void promise7Repair() {
        Sentences.says(7, "Repairs a block.");
        Ironbark x = withWear();
        int cash = x.cash();
        x.repair(0);
        Check.same("no wear", x.block(0, 0), 0);
        Check.same("closed", x.block(0, 1), 1);
        Check.same("is paid", x.cash(), cash - 20);
        Sentences.says(7, "`block`: its number");
        Edges.inside(Firm::full, Ironbark::repair, 0, 15);
        Sentences.says(7, "Returns what it costs.");
        Check.same("5 times 4", withWear().repair(0), 20);
        Check.same("nothing, without wear", Firm.full().repair(15), 0);
        Sentences.says(7, NO_BLOCK);
        Edges.noSuch(Firm::busy, 4, Ironbark::repair);
        Edges.noSuch(Firm::full, 16, Ironbark::repair);
        Sentences.says(7, "Throws `IllegalStateException` if it is held or closed");
        Edges.refused("held by one that runs there", Firm::busy, Check.STATE, y -> y.repair(0));
        Edges.refused("held by one that is not clear", EdgesBuildingTest::withTrainNotClear, Check.STATE, y -> y.repair(0));
        Edges.inside(EdgesBuildingTest::withWear, Ironbark::repair, 0);
        Edges.refused("closed", () -> repairedFor(1), Check.STATE, y -> y.repair(0));
        Edges.refused("closed for the 30th minute", () -> repairedFor(29), Check.STATE, y -> y.repair(0));
        Edges.inside(() -> repairedFor(30), Ironbark::repair, 0);
        Edges.refused("closed by wrecks", () -> Firm.withWrecks(1, 1), Check.STATE, y -> y.repair(0));
    }

    private static Ironbark withTrainNotClear() {
        Ironbark x = Firm.withTrain(9);
        Firm.addCars(x, 0, 3);
        Firm.send(x, 0, 0);
        x.run(6);
        return x;
    }

    private static Ironbark withEngines(int count) {
        Ironbark x = new Ironbark();
        for (int i = 0; i < count; i++) {
            x.engine(i, 1);
        }
        return x;
    }

    private static void promise8Engine() {
        Sentences.says(8, "Buys an engine, for 100 times its power.");
        Ironbark x = new Ironbark();
        x.engine(0, 1);
        Check.same("of power 1", x.cash(), 4900);
        x.engine(0, 9);
        Check.same("of power 9", x.cash(), 4000);
        Sentences.says(8, "`station`: 0 to 7");
        for (int station : new int[] {0, 7}) {
            Ironbark y = withCrewsAt(station);
            y.engine(station, 1);
            Check.same("it is there", y.train(y.form(0, 0), 1), station);
        }
        Sentences.says(8, "`power`: 1 to 9");
        Edges.inside(Firm::busy, (y, power) -> y.engine(0, power), 1, 9);
        Sentences.says(8, "Returns its number, from 0 on.");
        Check.same("the first", new Ironbark().engine(3, 3), 0);
        Check.same("the last", withEngines(5).engine(3, 3), 5);
        Sentences.says(8, NO_STATION);
        Edges.noSuch(Firm::busy, 8, (y, station) -> y.engine(station, 1));
        Edges.refused("power out of range too", Firm::busy, Check.INDEX, y -> y.engine(8, 0));
        Edges.refused("there are 6 too", Firm::full, Check.INDEX, y -> y.engine(-1, 1));
        Sentences.says(8, POWER);
        Edges.outside(Firm::busy, 1, 9, (y, power) -> y.engine(0, power));
        Edges.refused("there are 6 too", Firm::full, Check.ARGUMENT, y -> y.engine(0, 10));
        Sentences.says(8, SIX);
        Edges.refused("a 7th", Firm::full, Check.STATE, y -> y.engine(0, 1));
        Edges.refused("a 7th", () -> withEngines(6), Check.STATE, y -> y.engine(7, 9));
        Edges.inside(() -> withEngines(5), (y, station) -> y.engine(station, 1), 7);
    }

    private static void promise9Crew() {
        Sentences.says(9, "Takes a crew on.");
        Ironbark x = withCrewsAt(0);
        Check.same("it is", x.duty(0), 0);
        Check.same("for nothing", x.cash(), 5000);
        Sentences.says(9, "`station`: 0 to 7");
        for (int station : new int[] {0, 7}) {
            Ironbark y = withEngines(0);
            y.engine(station, 1);
            y.crew(station);
            Check.same("it is there", y.train(y.form(0, 0), 1), station);
        }
        Sentences.says(9, "Returns its number, from 0 on.");
        Check.same("the first", new Ironbark().crew(0), 0);
        Check.same("the last", withCrewsAt(0, 1, 2, 3, 4).crew(5), 5);
        Sentences.says(9, NO_STATION);
        Edges.noSuch(Firm::busy, 8, Ironbark::crew);
        Edges.refused("there are 6 too", Firm::full, Check.INDEX, y -> y.crew(8));
        Sentences.says(9, SIX);
        Edges.refused("a 7th", Firm::full, Check.STATE, y -> y.crew(0));
        Edges.refused("a 7th", () -> withCrewsAt(0, 1, 2, 3, 4, 5), Check.STATE, y -> y.crew(7));
        Edges.inside(() -> withCrewsAt(0, 1, 2, 3, 4), Ironbark::crew, 7);
    }

    private static void promise10Learn() {
        Sentences.says(10, "Lets a crew know a block.");
        Ironbark x = new Ironbark();
        x.lay(0, 1, 2, 0);
        x.engine(0, 1);
        x.crew(0);
        x.form(0, 0);
        Firm.send(x, 0, 0);
        Check.same("not yet", x.barred(0), 8);
        x.learn(0, 0);
        Check.same("known", x.barred(0), 0);
        Sentences.says(10, "`crew`: its number");
        Edges.inside(Firm::full, (y, crew) -> y.learn(crew, 0), 0, 5);
        Sentences.says(10, "`block`: its number");
        Edges.inside(Firm::full, (y, block) -> y.learn(0, block), 0, 15);
        Sentences.says(10, "Returns how many it knows then.");
        Ironbark all = withBlocks(16);
        all.crew(0);
        all.crew(0);
        for (int i = 1; i <= 16; i++) {
            Check.same("number " + i, all.learn(0, 16 - i), i);
        }
        Check.same("one that it knew", all.learn(0, 15), 16);
        Check.same("another crew", all.learn(1, 15), 1);
        Sentences.says(10, "Throws `IndexOutOfBoundsException` if there is no such crew or block");
        Edges.noSuch(Firm::busy, 5, (y, crew) -> y.learn(crew, 0));
        Edges.noSuch(Firm::full, 6, (y, crew) -> y.learn(crew, 15));
        Edges.noSuch(Firm::busy, 4, (y, block) -> y.learn(0, block));
        Edges.noSuch(Firm::full, 16, (y, block) -> y.learn(5, block));
        Edges.refused("neither", Firm::busy, Check.INDEX, y -> y.learn(-1, -1));
    }

    /** A crew without a train, which began to rest so many minutes ago. */
    private static Ironbark restingFor(int minutes) {
        Ironbark x = withCrewsAt(0);
        x.rest(0);
        Firm.runFor(x, minutes);
        return x;
    }

    private static void promise11Rest() {
        Sentences.says(11, "Lets a crew rest.");
        Ironbark x = withCrewsAt(0);
        x.rest(0);
        Check.same("it rests", x.duty(0), Ironbark.NONE);
        Sentences.says(11, "`crew`: its number");
        Edges.inside(Firm::full, Ironbark::rest, 0, 5);
        Sentences.says(11, "Returns the minute at which the rest ends.");
        Check.same("at first", withCrewsAt(0).rest(0), 480);
        Check.same("as the rest before has ended", restingFor(480).rest(0), 960);
        Check.same("beyond the end of the clock", Firm.atTheEnd().rest(0), 20480);
        Check.same("it rests until then", restingFor(479).duty(0), Ironbark.NONE);
        Check.same("no longer", restingFor(480).duty(0), 0);
        Sentences.says(11, NO_CREW);
        Edges.noSuch(Firm::busy, 5, Ironbark::rest);
        Edges.noSuch(Firm::full, 6, Ironbark::rest);
        Sentences.says(11, "Throws `IllegalStateException` if it is at rest, or its train runs or is wrecked");
        Edges.refused("at rest, at once", () -> restingFor(0), Check.STATE, y -> y.rest(0));
        Edges.refused("at rest, in its last minute", () -> restingFor(479), Check.STATE, y -> y.rest(0));
        Edges.inside(() -> restingFor(480), Ironbark::rest, 0);
        Edges.refused("its train runs", Firm::busy, Check.STATE, y -> y.rest(0));
        Edges.refused("its train is wrecked", () -> Firm.withWrecks(0, 0), Check.STATE, y -> y.rest(0));
        Edges.refused("its train is wrecked", () -> Firm.withWrecks(0, 0), Check.STATE, y -> y.rest(1));
        // Trains 1 and 2 stand, without a way and ready; crew 3 has no train.
        Edges.inside(Firm::busy, Ironbark::rest, 1, 2, 3);
    }

    private static Ironbark withCarsAt(int station, int count) {
        Ironbark x = new Ironbark();
        for (int i = 0; i < count; i++) {
            x.car(station);
        }
        return x;
    }

    private static void promise12Car() {
        Sentences.says(12, "Buys a car, for 50.");
        Check.same("one", withCarsAt(0, 1).cash(), 4950);
        Check.same("twenty", withCarsAt(0, 20).cash(), 4000);
        Sentences.says(12, "`home`: 0 to 7, where it stands");
        for (int home : new int[] {0, 7}) {
            Ironbark x = withCarsAt(home, 1);
            Check.same("it stands there", x.carAt(0), home);
            Check.same("in the yard", x.yardAt(home, 0), 0);
            Check.same("at home", x.homeward(0), Ironbark.NONE);
        }
        Sentences.says(12, "Returns its number, from 0 on.");
        Check.same("the first", new Ironbark().car(7), 0);
        Check.same("the last", withCarsAt(0, 19).car(7), 19);
        Sentences.says(12, NO_STATION);
        Edges.noSuch(Firm::busy, 8, Ironbark::car);
        Edges.refused("there are 20 too", Firm::full, Check.INDEX, y -> y.car(8));
        Sentences.says(12, "Throws `IllegalStateException` if there are 20");
        Edges.refused("a 21st", Firm::full, Check.STATE, y -> y.car(0));
        Edges.refused("a 21st", () -> withCarsAt(7, 20), Check.STATE, y -> y.car(7));
        Edges.inside(() -> withCarsAt(7, 19), Ironbark::car, 7);
    }

    private static Ironbark inDebt(int... amounts) {
        Ironbark x = new Ironbark();
        for (int amount : amounts) {
            x.borrow(amount);
        }
        return x;
    }

    private static void promise13Borrow() {
        Sentences.says(13, "Borrows money.");
        Ironbark x = inDebt(300);
        Check.same("debt", x.debt(), 300);
        Check.same("cash", x.cash(), 5300);
        Sentences.says(13, "`amount`: 1 to 20000");
        Check.same("1", inDebt(1).cash(), 5001);
        Check.same("20000", inDebt(20000).cash(), 25000);
        Sentences.says(13, "Returns the debt then.");
        Check.same("first", new Ironbark().borrow(20000), 20000);
        Check.same("besides", inDebt(300).borrow(1), 301);
        Sentences.says(13, AMOUNT);
        Edges.outside(Firm::busy, 1, 20000, Ironbark::borrow);
        Edges.refused("above 50000 too", Firm::full, Check.ARGUMENT, y -> y.borrow(20001));
        Sentences.says(13, "Throws `IllegalStateException` if the debt would be above 50000");
        Edges.refused("50001", Firm::full, Check.STATE, y -> y.borrow(1));
        Edges.refused("50001", () -> inDebt(20000, 20000, 9999), Check.STATE, y -> y.borrow(2));
        Edges.refused("70000", Firm::full, Check.STATE, y -> y.borrow(20000));
        Edges.refused("50001", () -> inDebt(20000, 10001), Check.STATE, y -> y.borrow(20000));
        Check.same("50000", inDebt(20000, 20000, 9999).borrow(1), 50000);
        Check.same("50000", inDebt(20000, 10000).borrow(20000), 50000);
    }

    /** A debt, and so much cash, which are 100 times a number of minutes less. */
    private static Ironbark withCash(int debt, int spent) {
        Ironbark x = inDebt(debt);
        for (int left = spent; left > 0; left -= 60) {
            x.lay(0, 1, Math.min(left, 60), 0);
        }
        return x;
    }

    private static void promise14Repay() {
        Sentences.says(14, "Pays debt back.");
        Ironbark x = inDebt(1000);
        x.repay(400);
        Check.same("debt", x.debt(), 600);
        Check.same("cash", x.cash(), 5600);
        Sentences.says(14, "`amount`: 1 to 50000");
        Edges.inside(Firm::busy, Ironbark::repay, 1);
        Check.same("50000", inDebt(20000, 20000, 10000).repay(50000), 0);
        Sentences.says(14, "Returns the debt then.");
        Check.same("some", inDebt(1000).repay(1), 999);
        Check.same("all", inDebt(1000).repay(1000), 0);
        Sentences.says(14, AMOUNT);
        Edges.outside(Firm::busy, 1, 50000, Ironbark::repay);
        Edges.outside(Ironbark::new, 1, 50000, Ironbark::repay);
        Sentences.says(14, "Throws `IllegalStateException` if it is above the debt, or the cash");
        Edges.refused("above the debt", () -> inDebt(1000), Check.STATE, y -> y.repay(1001));
        Edges.refused("no debt", Ironbark::new, Check.STATE, y -> y.repay(1));
        Edges.refused("the most, above the debt", Firm::busy, Check.STATE, y -> y.repay(50000));
        Edges.refused("above the cash", () -> withCash(1000, 52), Check.STATE, y -> y.repay(801));
        Edges.inside(() -> withCash(1000, 52), Ironbark::repay, 800);
        Edges.refused("no cash", () -> withCash(1000, 60), Check.STATE, y -> y.repay(1));
        Edges.refused("cash below 0", () -> withCash(1000, 120), Check.STATE, y -> y.repay(1));
    }

    public static void main(String[] arguments) {
        promise1ANewObject();
        promise2Tracks();
        promise3Lay();
        promise4Fail();
        promise5Flag();
        promise6Hours();
        promise7Repair();
        promise8Engine();
        promise9Crew();
        promise10Learn();
        promise11Rest();
        promise12Car();
        promise13Borrow();
        promise14Repay();
        Sentences.allSaid(1, 14);
        Check.end();
    }
}
