/** Promises 15 to 24, sentence by sentence: values just inside and just outside, and calls that are refused. */
public final class EdgesTrainsTest {
    private static final String ITS_ENGINE = "`engine`: its number";
    private static final String ITS_CREW = "`crew`: its number";
    private static final String ITS_TRAIN = "`train`: its number";
    private static final String ITS_CAR = "`car`: its number";
    private static final String ITS_BLOCK = "`block`: its number";
    private static final String NO_TRAIN = "Throws `IndexOutOfBoundsException` if there is no such train";
    private static final String NO_TRAIN_OR_CAR = "Throws `IndexOutOfBoundsException` if there is no such train or car";
    private static final String NO_BLOCK = "Throws `IndexOutOfBoundsException` if there is no such block";

    private EdgesTrainsTest() {
    }

    /** Trains 0 and 2 at station 0, but no train 1. */
    private static Ironbark withGap() {
        Ironbark x = Firm.withTrain(9);
        x.tracks(0, 3);
        Firm.addTrain(x, 0, 9);
        Firm.addTrain(x, 0, 9);
        x.dissolve(1);
        return x;
    }

    private static Ironbark cleared() {
        Ironbark x = Firm.withWrecks(0, 0);
        x.clear(0);
        return x;
    }

    /** No train of a number that none has, that none has any more, or that none has yet. */
    private static void noSuchTrain(Edges.DeedWith deed) {
        Edges.noSuch(Firm::busy, 3, deed);
        Edges.noSuch(Firm::full, 6, deed);
        Edges.refused("dissolved", EdgesTrainsTest::withGap, Check.INDEX, x -> deed.on(x, 1));
        Edges.refused("wrecked and cleared", EdgesTrainsTest::cleared, Check.INDEX, x -> deed.on(x, 0));
        Edges.refused("wrecked and cleared", EdgesTrainsTest::cleared, Check.INDEX, x -> deed.on(x, 1));
    }

    /** So many engines and crews at station 0, where 2 tracks are. */
    private static Ironbark withPairs(int count) {
        Ironbark x = new Ironbark();
        for (int i = 0; i < count; i++) {
            x.engine(0, 1);
            x.crew(0);
        }
        return x;
    }

    private static void promise15Form() {
        Sentences.says(15, "Forms a train.");
        Ironbark x = withPairs(6);
        Check.same("the first", x.form(0, 0), 0);
        int[] due = {Ironbark.STANDING, 0, Ironbark.NONE, 0, 0, 0, Ironbark.NONE};
        for (int what = 0; what < due.length; what++) {
            Check.same("told " + what, x.train(0, what), due[what]);
        }
        Check.same("one track is taken", x.freeTracks(0), 1);
        formsAnew();
        Sentences.says(15, ITS_ENGINE);
        Edges.inside(() -> withPairs(6), (y, engine) -> y.form(engine, 0), 0, 5);
        Sentences.says(15, ITS_CREW);
        Edges.inside(() -> withPairs(6), (y, crew) -> y.form(0, crew), 0, 5);
        Sentences.says(15, "Returns the number of the train.");
        Check.same("the second", x.form(5, 5), 1);
        Check.same("in the gap", withGap().form(1, 1), 1);
        Sentences.says(15, "Throws `IndexOutOfBoundsException` if there is no such engine or crew");
        Edges.noSuch(Firm::busy, 4, (y, engine) -> y.form(engine, 3));
        Edges.noSuch(Firm::busy, 5, (y, crew) -> y.form(3, crew));
        Edges.noSuch(Firm::full, 6, (y, number) -> y.form(number, number));
        Edges.refused("crew at rest too", Firm::busy, Check.INDEX, y -> y.form(4, 4));
        Edges.refused("engine with a train too", Firm::busy, Check.INDEX, y -> y.form(0, 5));
        promise15NotPossible();
    }

    /** Of what a train of the same number had, nothing is left: cars, way, the one for which it waited, blocks. */
    private static void formsAnew() {
        Ironbark x = Firm.withTrain(9);
        Firm.addTrain(x, 1, 9);
        x.leg(0);
        x.leg(0);
        x.plan(0, 700, 9);
        x.await(0, 1, 0);
        x.dissolve(0);
        x.form(0, 0);
        Check.same("without a way", x.train(0, 0) * 10 + x.train(0, 5), 0);
        Check.same("it does not begin", x.run(1), 0);
        Firm.send(x, 0, 0);
        Check.same("it waits for none", x.barred(0), 0);
        x.run(7);
        x.dissolve(0);
        x.form(0, 0);
        Check.same("where it came, without a way", x.train(0, 1) * 100 + x.train(0, 0) * 10 + x.train(0, 5), 100);
        Ironbark y = wreckedFartherOn();
        y.clear(0);
        for (int train = 0; train < 2; train++) {
            y.form(train, train);
            int[] due = {Ironbark.STANDING, 0, Ironbark.NONE, 0, 0, 0, Ironbark.NONE};
            for (int what = 0; what < due.length; what++) {
                Check.same("told " + what, y.train(train, what), due[what]);
            }
        }
        Check.same("holds none", y.holder(0) + y.holder(1) + y.holderByTrains(0) + y.holderByTrains(1), -4);
        Check.same("is clear", y.dissolve(0) + y.dissolve(1), 0);
    }

    /** Train 0, with cars, has run over block 0 and runs in block 1 as train 1 enters block 0 behind it. */
    private static Ironbark wreckedFartherOn() {
        Ironbark x = Firm.withTrain(9);
        x.lay(1, 2, 9, 0);
        Firm.learnAll(x, 0);
        Firm.addTrain(x, 0, 9);
        Firm.addCars(x, 0, 8);
        Firm.addCars(x, 1, 2);
        Firm.send(x, 0, 0, 1, 1);
        x.run(6);
        Firm.send(x, 1, 0, 0);
        Check.same("accident", x.train(0, 2) == 1 && !x.passSignal(1), true);
        return x;
    }

    private static Ironbark withPairAfterRestOf(int minutes) {
        Ironbark x = withPairs(1);
        x.rest(0);
        Firm.runFor(x, minutes);
        return x;
    }

    private static Ironbark withTwoTrains() {
        Ironbark x = withPairs(3);
        x.form(0, 0);
        x.form(1, 1);
        return x;
    }

    /** Train 0 stands at station 1, train 1 runs to it; engine 2 and crew 2 are there. */
    private static Ironbark withTrainOnItsWay() {
        Ironbark x = Firm.withTrain(9);
        Firm.addTrain(x, 0, 9);
        Firm.send(x, 0, 0);
        x.run(7);
        Firm.send(x, 1, 0);
        x.run(1);
        x.engine(1, 1);
        x.crew(1);
        return x;
    }

    private static void promise15NotPossible() {
        Sentences.says(15, "Throws `IllegalStateException` if it is not possible, or there are 6");
        Edges.inside(Firm::busy, (x, crew) -> x.form(3, crew), 3);
        Edges.refused("engine with a train", Firm::busy, Check.STATE, x -> x.form(1, 3));
        Edges.refused("crew with a train", Firm::busy, Check.STATE, x -> x.form(3, 2));
        Edges.refused("crew at rest", Firm::busy, Check.STATE, x -> x.form(3, 4));
        Edges.refused("in its last minute", () -> withPairAfterRestOf(479), Check.STATE, x -> x.form(0, 0));
        Edges.inside(() -> withPairAfterRestOf(480), (x, crew) -> x.form(0, crew), 0);
        Edges.refused("at two stations", EdgesTrainsTest::withCrewElsewhere, Check.STATE, x -> x.form(0, 0));
        Edges.refused("two tracks, two trains", EdgesTrainsTest::withTwoTrains, Check.STATE, x -> x.form(2, 2));
        Edges.refused("one stands, one runs there", EdgesTrainsTest::withTrainOnItsWay, Check.STATE, x -> x.form(2, 2));
        Edges.refused("with a wrecked train", () -> Firm.withWrecks(0, 0), Check.STATE, x -> x.form(0, 0));
        Edges.refused("there are 6", Firm::full, Check.STATE, x -> x.form(5, 5));
        Ironbark x = withPairs(6);
        x.tracks(0, 4);
        for (int i = 0; i < 4; i++) {
            Check.same("train " + i, x.form(i, i), i);
        }
        Check.same("six", Firm.full().train(5, 0), Ironbark.STANDING);
    }

    private static Ironbark withCrewElsewhere() {
        Ironbark x = new Ironbark();
        x.engine(0, 1);
        x.crew(1);
        return x;
    }

    /** A train with so many cars, so many minutes after it has entered block 0, of 5 minutes. */
    private static Ironbark afterEntering(int cars, int minutes) {
        Ironbark x = Firm.withTrain(9);
        Firm.addCars(x, 0, cars);
        Firm.send(x, 0, 0);
        x.run(1 + minutes);
        return x;
    }

    private static void promise16Dissolve() {
        Sentences.says(16, "Dissolves a train; its engine and crew are at the station.");
        Ironbark x = afterEntering(0, 6);
        x.engine(0, 1);
        x.crew(0);
        x.dissolve(0);
        Check.same("no track is taken", x.freeTracks(1), 2);
        Check.refused("the engine is not where it was", Check.STATE, () -> x.form(0, 1));
        Check.refused("nor is the crew", Check.STATE, () -> x.form(1, 0));
        Check.same("both are there", x.form(0, 0), 0);
        Check.same("at that station", x.train(0, 1), 1);
        Sentences.says(16, ITS_TRAIN);
        Edges.inside(Firm::full, Ironbark::dissolve, 0, 5);
        Sentences.says(16, "Returns the station.");
        Check.same("from where it never went", Firm.full().dissolve(5), 2);
        Check.same("to where it came", afterEntering(0, 6).dissolve(0), 1);
        Sentences.says(16, NO_TRAIN);
        noSuchTrain(Ironbark::dissolve);
        Sentences.says(16, "Throws `IllegalStateException` if it does not stand, has cars, or is not clear of a block");
        Edges.refused("runs", () -> afterEntering(0, 0), Check.STATE, y -> y.dissolve(0));
        Edges.refused("runs, for its last minute", () -> afterEntering(0, 4), Check.STATE, y -> y.dissolve(0));
        Edges.refused("is wrecked", () -> Firm.withWrecks(0, 0), Check.STATE, y -> y.dissolve(1));
        Edges.refused("has one car", () -> afterEntering(1, 6), Check.STATE, y -> y.dissolve(0));
        Edges.refused("is not clear", () -> afterEntering(0, 5), Check.STATE, y -> y.dissolve(0));
        Edges.refused("is not clear with what it had", () -> uncoupledAfter(6), Check.STATE, y -> y.dissolve(0));
        Edges.inside(() -> uncoupledAfter(7), Ironbark::dissolve, 0);
        // Train 2 is ready, and waits for another one.
        Edges.inside(Firm::busy, Ironbark::dissolve, 1, 2);
    }

    /** Came with four cars, so it is clear 2 minutes behind its arrival; then they are uncoupled. */
    private static Ironbark uncoupledAfter(int minutes) {
        Ironbark x = afterEntering(4, minutes);
        for (int car = 0; car < 4; car++) {
            x.uncouple(0, car);
        }
        return x;
    }

    private static Ironbark withCars(int coupled, int free) {
        Ironbark x = Firm.withTrain(9);
        Firm.addCars(x, 0, coupled);
        for (int i = 0; i < free; i++) {
            x.car(0);
        }
        return x;
    }

    private static void promise17Couple() {
        Sentences.says(17, "Couples a car behind the others of a train.");
        Ironbark x = withCars(0, 3);
        for (int car : new int[] {2, 0, 1}) {
            x.couple(0, car);
            Check.same("with the train", x.carAt(car), 100);
        }
        Check.same("none is left there", x.yardAt(0, 0), Ironbark.NONE);
        Firm.addTrain(x, 0, 9);
        Firm.send(x, 1, 0);
        x.run(1);
        Firm.send(x, 0, 0);
        x.passSignal(0);
        x.clear(0);
        Check.same("as they were coupled", x.yardAt(0, 0) * 100 + x.yardAt(0, 1) * 10 + x.yardAt(0, 2), 201);
        Sentences.says(17, ITS_TRAIN);
        Check.same("the last", Firm.full().couple(5, 18), 1);
        Sentences.says(17, ITS_CAR);
        Edges.inside(() -> withCars(0, 20), (y, car) -> y.couple(0, car), 0, 19);
        Sentences.says(17, "Returns how many cars it has then.");
        Ironbark ten = withCars(0, 10);
        for (int i = 0; i < 10; i++) {
            Check.same("car " + i, ten.couple(0, i), i + 1);
        }
        Sentences.says(17, NO_TRAIN_OR_CAR);
        noSuchTrain((y, train) -> y.couple(train, 0));
        Edges.noSuch(Firm::busy, 6, (y, car) -> y.couple(1, car));
        Edges.noSuch(Firm::full, 20, (y, car) -> y.couple(0, car));
        Edges.refused("a car that is with a train", Firm::busy, Check.INDEX, y -> y.couple(3, 0));
        Edges.refused("a train that runs", Firm::busy, Check.INDEX, y -> y.couple(0, 6));
        Edges.refused("a train that has 10", () -> withCars(10, 1), Check.INDEX, y -> y.couple(0, 11));
        promise17NotPossible();
    }

    private static void promise17NotPossible() {
        Sentences.says(17,
            "Throws `IllegalStateException` if the train does not stand, has 10, or the car does not stand at its station");
        Edges.refused("runs, the car is there", Firm::busy, Check.STATE, x -> x.couple(0, 4));
        Edges.refused("runs, the car is where it was", Firm::busy, Check.STATE, x -> x.couple(0, 3));
        Edges.refused("is wrecked", EdgesTrainsTest::withWrecksAndCar, Check.STATE, x -> x.couple(0, 2));
        Edges.refused("has 10", () -> withCars(10, 1), Check.STATE, x -> x.couple(0, 10));
        Edges.inside(() -> withCars(9, 1), (x, car) -> x.couple(0, car), 9);
        Edges.refused("elsewhere", Firm::busy, Check.STATE, x -> x.couple(1, 3));
        Edges.refused("with it", () -> withCars(2, 0), Check.STATE, x -> x.couple(0, 1));
        Edges.refused("with another one", Firm::busy, Check.STATE, x -> x.couple(1, 0));
        Edges.refused("with another one, which stands there", EdgesTrainsTest::withCarOfAnother, Check.STATE,
            x -> x.couple(1, 0));
        // One that stands without a way; a loaded car too.
        Edges.inside(Firm::busy, (x, car) -> x.couple(1, car), 4, 5);
        Edges.inside(EdgesTrainsTest::withReadyTrain, (x, car) -> x.couple(0, car), 1);
    }

    private static Ironbark withWrecksAndCar() {
        Ironbark x = Firm.withWrecks(1, 1);
        x.car(0);
        return x;
    }

    private static Ironbark withCarOfAnother() {
        Ironbark x = withCars(1, 0);
        Firm.addTrain(x, 0, 9);
        return x;
    }

    private static Ironbark withReadyTrain() {
        Ironbark x = withCars(1, 1);
        Firm.send(x, 0, 0);
        return x;
    }

    private static void promise18Uncouple() {
        Sentences.says(18, "Uncouples a car; it comes to the end of the yard.");
        Ironbark x = withCars(3, 2);
        x.uncouple(0, 1);
        Check.same("at the station", x.carAt(1), 0);
        Check.same("behind the others", x.yardAt(0, 2), 1);
        x.uncouple(0, 0);
        Check.same("behind that one", x.yardAt(0, 3), 0);
        Check.same("and no more", x.yardAt(0, 4), Ironbark.NONE);
        Sentences.says(18, ITS_TRAIN);
        Ironbark last = Firm.full();
        last.couple(5, 18);
        Check.same("the last", last.uncouple(5, 18), 0);
        Sentences.says(18, ITS_CAR);
        Edges.inside(EdgesTrainsTest::withLastCar, (y, car) -> y.uncouple(0, car), 0, 19);
        Sentences.says(18, "Returns how many cars the train has then.");
        Check.same("of 10", withCars(10, 0).uncouple(0, 0), 9);
        Check.same("of 1", withCars(1, 0).uncouple(0, 0), 0);
        Sentences.says(18, NO_TRAIN_OR_CAR);
        noSuchTrain((y, train) -> y.uncouple(train, 0));
        Edges.noSuch(Firm::busy, 6, (y, car) -> y.uncouple(1, car));
        Edges.refused("a train that runs", Firm::busy, Check.INDEX, y -> y.uncouple(0, 6));
        Edges.refused("a car of another one", Firm::busy, Check.INDEX, y -> y.uncouple(3, 0));
        Sentences.says(18, "Throws `IllegalStateException` if the train does not stand, or the car is not with it");
        Edges.refused("runs", Firm::busy, Check.STATE, y -> y.uncouple(0, 0));
        Edges.refused("is wrecked", () -> Firm.withWrecks(1, 1), Check.STATE, y -> y.uncouple(0, 0));
        Edges.refused("the car is in the yard", () -> withCars(1, 1), Check.STATE, y -> y.uncouple(0, 1));
        Edges.refused("the car is with another one", EdgesTrainsTest::withCarOfAnother, Check.STATE,
            y -> y.uncouple(1, 0));
        Edges.refused("no cars", () -> withCars(0, 1), Check.STATE, y -> y.uncouple(0, 0));
        Edges.inside(EdgesTrainsTest::withReadyTrain, (y, car) -> y.uncouple(0, car), 0);
    }

    private static Ironbark withLastCar() {
        Ironbark x = withCars(1, 19);
        x.couple(0, 19);
        return x;
    }

    /** Train 0 at station 0, and block 0 drafted so often. */
    private static Ironbark withDraft(int count) {
        Ironbark x = Firm.withTrain(9);
        for (int i = 0; i < count; i++) {
            x.leg(0);
        }
        return x;
    }

    private static void promise19Leg() {
        Sentences.says(19, "Puts a block behind the way that is drafted.");
        Ironbark x = Firm.busy();
        x.plan(1, 0, 0);
        x.leg(1);
        x.leg(2);
        x.leg(3);
        Check.same("1 to 2, 2 to 3, 3 to 0", x.plan(1, 0, 0), 0);
        Check.same("three", x.train(1, 5), 3);
        Sentences.says(19, ITS_BLOCK);
        Ironbark full = Firm.full();
        full.plan(0, 0, 0);
        Check.same("the last", full.leg(15), 1);
        Sentences.says(19, "Returns how many it has then.");
        for (int i = 0; i < 8; i++) {
            Check.same("behind " + i, withDraft(i).leg(0), i + 1);
        }
        Sentences.says(19, NO_BLOCK);
        Edges.noSuch(Firm::busy, 4, Ironbark::leg);
        Edges.noSuch(Firm::full, 16, Ironbark::leg);
        Sentences.says(19, "Throws `IllegalStateException` if it has 8");
        Edges.refused("a 9th", () -> withDraft(8), Check.STATE, y -> y.leg(0));
        Edges.refused("a 9th", Firm::full, Check.STATE, y -> y.leg(15));
        Edges.inside(() -> withDraft(7), Ironbark::leg, 0);
    }

    private static void promise20Plan() {
        Sentences.says(20, "Gives a train the way that is drafted, in place of one that it has; none is drafted then.");
        Ironbark x = withDraft(3);
        x.plan(0, 0, 0);
        Check.same("given", x.train(0, 5) * 10 + x.train(0, 0), 31);
        Check.refused("none is drafted", Check.STATE, () -> x.plan(0, 0, 0));
        Check.same("the next is the first", x.leg(0), 1);
        x.plan(0, 0, 0);
        Check.same("in place of it", x.train(0, 5), 1);
        Sentences.says(20, ITS_TRAIN);
        Check.same("the first", Firm.full().plan(0, 0, 0), 0);
        Sentences.says(20, "`minute`: 0 to 20000");
        Edges.inside(() -> withDraft(1), (y, minute) -> y.plan(0, minute, 0), 0, 20000);
        Ironbark last = withDraft(1);
        last.plan(0, 20000, 0);
        Firm.runFor(last, 19999);
        Check.same("barred until then", last.barred(0), 1);
        Check.same("begins in the last minute", last.run(1), 1);
        Sentences.says(20, "`rank`: 0 to 9");
        Edges.inside(() -> withDraft(1), (y, rank) -> y.plan(0, 0, rank), 0, 9);
        Sentences.says(20, "Returns the station at which the way ends.");
        Check.same("one block", withDraft(1).plan(0, 0, 0), 1);
        Check.same("there and back", withDraft(2).plan(0, 0, 0), 0);
        Check.same("1 to 2, 2 to 3", Firm.busy().plan(1, 0, 0), 3);
        Sentences.says(20, NO_TRAIN);
        noSuchTrain((y, train) -> y.plan(train, 0, 0));
        Edges.refused("minute out of range too", Firm::busy, Check.INDEX, y -> y.plan(3, -1, 0));
        Edges.refused("rank out of range too", Firm::busy, Check.INDEX, y -> y.plan(-1, 0, 10));
        Edges.refused("none drafted too", () -> withDraft(0), Check.INDEX, y -> y.plan(1, 0, 0));
        promise20NotPossible();
    }

    private static void promise20NotPossible() {
        Sentences.says(20, "Throws `IllegalArgumentException` if minute or rank is out of range");
        Edges.outside(Firm::busy, 0, 20000, (x, minute) -> x.plan(1, minute, 0));
        Edges.outside(Firm::busy, 0, 9, (x, rank) -> x.plan(1, 0, rank));
        Edges.refused("none drafted too", () -> withDraft(0), Check.ARGUMENT, x -> x.plan(0, 20001, 0));
        Edges.refused("runs too", Firm::busy, Check.ARGUMENT, x -> x.plan(0, 0, -1));
        Sentences.says(20,
            "Throws `IllegalStateException` if the train does not stand, no way is drafted, or it is none from its station");
        Edges.refused("runs, to where the way begins", Firm::busy, Check.STATE, x -> x.plan(0, 0, 0));
        Edges.refused("runs, from where the way begins", EdgesTrainsTest::withDraftBehindIt, Check.STATE,
            x -> x.plan(0, 0, 0));
        Edges.refused("is wrecked", EdgesTrainsTest::withWrecksAndDraft, Check.STATE, x -> x.plan(0, 0, 0));
        Edges.refused("none drafted", () -> withDraft(0), Check.STATE, x -> x.plan(0, 0, 0));
        Edges.refused("none from there at all", Firm::full, Check.STATE, x -> x.plan(5, 0, 0));
        Edges.refused("only its end is there", Firm::busy, Check.STATE, x -> x.plan(2, 0, 0));
        Edges.refused("the second does not go on", EdgesTrainsTest::withBrokenDraft, Check.STATE, x -> x.plan(0, 0, 0));
        Edges.refused("the last does not go on", EdgesTrainsTest::withDraftBrokenAtTheEnd, Check.STATE,
            x -> x.plan(0, 0, 0));
        Edges.inside(() -> withDraft(8), (x, rank) -> x.plan(0, 0, rank), 0);
    }

    private static Ironbark withDraftBehindIt() {
        Ironbark x = afterEntering(0, 0);
        x.lay(0, 2, 2, 0);
        x.leg(1);
        return x;
    }

    private static Ironbark withWrecksAndDraft() {
        Ironbark x = Firm.withWrecks(0, 0);
        x.leg(0);
        return x;
    }

    private static Ironbark withBrokenDraft() {
        Ironbark x = withDraft(1);
        x.lay(0, 2, 2, 0);
        x.leg(1);
        return x;
    }

    private static Ironbark withDraftBrokenAtTheEnd() {
        Ironbark x = withDraft(7);
        x.lay(0, 2, 2, 0);
        x.leg(1);
        return x;
    }

    private static void promise21Await() {
        Sentences.says(21, "Lets a train wait for another one at a station; in place of what it waited for.");
        Ironbark x = withDraft(1);
        Firm.addTrain(x, 1, 9);
        x.plan(0, 0, 0);
        x.await(0, 1, 0);
        Check.same("waits", x.barred(0), 2);
        x.await(0, 1, 1);
        Check.same("in place of it, elsewhere", x.barred(0), 0);
        Sentences.says(21, ITS_TRAIN);
        Edges.inside(Firm::full, (y, train) -> y.await(train, train == 0 ? 1 : 0, 0), 0, 5);
        Sentences.says(21, "`other`: another train, or NONE for none");
        Edges.inside(Firm::full, (y, other) -> y.await(1, other, 0), 0, 5, Ironbark.NONE);
        x.await(0, 1, 0);
        x.await(0, Ironbark.NONE, 7);
        Check.same("for none", x.barred(0), 0);
        Sentences.says(21, "`station`: 0 to 7");
        Edges.inside(Firm::busy, (y, station) -> y.await(1, 2, station), 0, 7);
        Edges.inside(Firm::busy, (y, station) -> y.await(1, Ironbark.NONE, station), 0, 7);
        Sentences.says(21, "Throws `IndexOutOfBoundsException` if there is no such train, of either, or station");
        noSuchTrain((y, train) -> y.await(train, Ironbark.NONE, 0));
        for (int other : new int[] {-2, 3, Integer.MIN_VALUE, Integer.MAX_VALUE}) {
            Edges.refused("other " + other, Firm::busy, Check.INDEX, y -> y.await(0, other, 0));
        }
        Edges.refused("other is dissolved", EdgesTrainsTest::withGap, Check.INDEX, y -> y.await(0, 1, 0));
        Edges.noSuch(Firm::busy, 8, (y, station) -> y.await(2, 1, station));
        Edges.noSuch(Firm::busy, 8, (y, station) -> y.await(2, Ironbark.NONE, station));
        Edges.refused("the same, which there is not", Firm::busy, Check.INDEX, y -> y.await(3, 3, 0));
        Edges.refused("the same, no such station", Firm::busy, Check.INDEX, y -> y.await(2, 2, 8));
        Sentences.says(21, "Throws `IllegalStateException` if both are the same");
        Edges.refused("the same", Firm::busy, Check.STATE, y -> y.await(2, 2, 2));
        Edges.refused("the same, the first", Firm::busy, Check.STATE, y -> y.await(0, 0, 7));
    }

    private static Ironbark atMinute(int minute) {
        Ironbark x = Firm.withTrain(9);
        Firm.runFor(x, minute);
        return x;
    }

    private static void promise22Run() {
        Sentences.says(22, "Lets minutes pass.");
        Ironbark x = withDraft(8);
        x.run(7);
        Check.same("so many", x.clock(), 7);
        Sentences.says(22, "`minutes`: 1 to 300");
        x.run(1);
        Check.same("one", x.clock(), 8);
        x.run(300);
        Check.same("300", x.clock(), 308);
        Sentences.says(22, "Returns how many blocks trains entered in them.");
        Check.same("none", x.run(300), 0);
        x.plan(0, 610, 0);
        Check.same("none until its minute", x.run(1), 0);
        Check.same("one", x.run(1), 1);
        Check.same("the other seven", x.run(300), 7);
        Sentences.says(22, "Throws `IllegalArgumentException` if minutes is out of range");
        Edges.outside(Firm::busy, 1, 300, Ironbark::run);
        Edges.outside(Firm::atTheEnd, 1, 300, Ironbark::run);
        Sentences.says(22, "Throws `IllegalStateException` if the clock would be above 20000");
        Edges.refused("20001 by 1", Firm::atTheEnd, Check.STATE, y -> y.run(1));
        Edges.refused("20300", Firm::atTheEnd, Check.STATE, y -> y.run(300));
        Edges.refused("20001 by 300", () -> atMinute(19701), Check.STATE, y -> y.run(300));
        Edges.refused("20001 by 2", () -> atMinute(19999), Check.STATE, y -> y.run(2));
        Edges.inside(() -> atMinute(19701), Ironbark::run, 1, 299);
        Edges.inside(() -> atMinute(19700), Ironbark::run, 300);
        Edges.inside(() -> atMinute(19999), Ironbark::run, 1);
    }

    /**
     * Train 0 is ready to enter block 0, barred by 3, 4 or 5, or by none of them for 0, and by one of the others
     * besides, or by none of them for 0.
     */
    private static Ironbark barredBy(int signal, int besides) {
        Ironbark x = new Ironbark();
        x.borrow(20000);
        x.lay(0, 1, 10, 0);
        x.engine(0, 1);
        x.crew(0);
        if (besides != 8) {
            x.learn(0, 0);
        }
        x.form(0, 0);
        Firm.addTrain(x, 1, 9);
        if (signal == 3) {
            Firm.send(x, 1, 0);
            x.run(1);
            Firm.addTrain(x, 1, 9);
        } else if (signal == 4) {
            x.repair(0);
        } else if (signal == 5) {
            x.fail(0, true);
        }
        x.leg(0);
        x.plan(0, besides == 1 ? 50 : 0, 0);
        barBesides(x, besides);
        return x;
    }

    private static void barBesides(Ironbark x, int besides) {
        switch (besides) {
            case 2 -> x.await(0, 1, 0);
            case 6 -> x.hours(0, 0, 1440);
            case 7 -> Firm.addCars(x, 0, 5);
            case 9 -> x.rest(0);
            case 10 -> x.tracks(1, 1);
            default -> { }
        }
    }

    private static void promise23PassSignal() {
        Sentences.says(23, "Lets a train pass the signal of its next block.");
        Ironbark x = barredBy(5, 0);
        x.passSignal(0);
        Check.same("it runs", x.train(0, 0), Ironbark.RUNNING);
        Check.same("in that block", x.train(0, 2), 0);
        Sentences.says(23, ITS_TRAIN);
        Check.same("the first", barredBy(4, 0).passSignal(0), true);
        Ironbark full = Firm.full();
        full.plan(0, 0, 0);
        full.leg(2);
        full.plan(5, 0, 0);
        full.learn(5, 2);
        full.repair(2);
        full.tracks(3, 4);
        Check.same("the last", full.passSignal(5), true);
        Sentences.says(23, "Returns whether it enters the block, without an accident.");
        Check.same("held", barredBy(3, 0).passSignal(0), false);
        Check.same("closed", barredBy(4, 0).passSignal(0), true);
        Check.same("failed", barredBy(5, 0).passSignal(0), true);
        Sentences.says(23, NO_TRAIN);
        noSuchTrain(Ironbark::passSignal);
        Sentences.says(23, "Throws `IllegalStateException` if it is not ready, or not barred so, it holds the block itself,"
            + " or there are wrecks in it");
        promise23NotReady();
        promise23NotBarredSo();
        Edges.refused("holds it itself", EdgesTrainsTest::withTrainNotClear, Check.STATE, y -> y.passSignal(0));
        Edges.inside(EdgesTrainsTest::withAnotherNotClear, Ironbark::passSignal, 1);
        Edges.refused("wrecks in it", EdgesTrainsTest::withWrecksAhead, Check.STATE, y -> y.passSignal(2));
    }

    private static void promise23NotReady() {
        Edges.refused("stands without a way", Firm::busy, Check.STATE, x -> x.passSignal(1));
        Edges.refused("runs", Firm::busy, Check.STATE, x -> x.passSignal(0));
        Edges.refused("is wrecked", () -> Firm.withWrecks(0, 0), Check.STATE, x -> x.passSignal(0));
        Edges.refused("has arrived at the end of its way", () -> afterEntering(0, 5), Check.STATE, x -> x.passSignal(0));
    }

    private static void promise23NotBarredSo() {
        for (int besides : new int[] {0, 1, 2, 6, 7, 8, 9, 10}) {
            Check.same("barred by it alone", barredBy(0, besides).barred(0), besides);
            Edges.refused("by " + besides + " alone", () -> barredBy(0, besides), Check.STATE, x -> x.passSignal(0));
            for (int signal = 3; besides != 0 && signal <= 5; signal++) {
                int s = signal;
                Check.same("the first", barredBy(s, besides).barred(0), Math.min(s, besides));
                String what = "by " + s + " and " + besides;
                Edges.refused(what, () -> barredBy(s, besides), Check.STATE, x -> x.passSignal(0));
            }
        }
    }

    /** Train 0 has a second block, the same, and is not yet clear of the first. */
    private static Ironbark withTrainNotClear() {
        Ironbark x = Firm.withTrain(9);
        Firm.send(x, 0, 0, 0);
        x.run(6);
        return x;
    }

    private static Ironbark withAnotherNotClear() {
        Ironbark x = withTrainNotClear();
        Firm.addTrain(x, 0, 9);
        Firm.send(x, 1, 0);
        return x;
    }

    private static Ironbark withWrecksAhead() {
        Ironbark x = Firm.withWrecks(0, 0);
        Firm.addTrain(x, 1, 9);
        Firm.send(x, 2, 0);
        return x;
    }

    private static void promise24Clear() {
        Sentences.says(24, "Clears a block of wrecks.");
        Ironbark x = Firm.withWrecks(0, 0);
        int cash = x.cash();
        x.clear(0);
        Check.same("it is not closed", x.block(0, 1), 0);
        Check.same("the cost", x.cash(), cash - 500);
        Sentences.says(24, ITS_BLOCK);
        Edges.inside(() -> Firm.withWrecks(0, 0), Ironbark::clear, 0);
        Check.same("the last", withWrecksInTheLast().clear(15), 2);
        Sentences.says(24, "Returns how many trains are no more.");
        Check.same("both", Firm.withWrecks(3, 2).clear(0), 2);
        Sentences.says(24, NO_BLOCK);
        Edges.noSuch(() -> Firm.withWrecks(0, 0), 1, Ironbark::clear);
        Edges.noSuch(EdgesTrainsTest::withWrecksInTheLast, 16, Ironbark::clear);
        Sentences.says(24, "Throws `IllegalStateException` if there are no wrecks in it");
        Edges.refused("held", Firm::busy, Check.STATE, y -> y.clear(0));
        Edges.refused("free", Firm::busy, Check.STATE, y -> y.clear(1));
        Edges.refused("closed by a repair", () -> barredBy(4, 0), Check.STATE, y -> y.clear(0));
        Edges.refused("cleared", EdgesTrainsTest::cleared, Check.STATE, y -> y.clear(0));
        Edges.refused("wrecks in another one", EdgesTrainsTest::withWrecksInTheLast, Check.STATE, y -> y.clear(14));
    }

    private static Ironbark withWrecksInTheLast() {
        Ironbark x = new Ironbark();
        for (int i = 0; i < 16; i++) {
            x.lay(0, 1, 4, 0);
        }
        Firm.addTrain(x, 0, 9);
        Firm.addTrain(x, 0, 9);
        Firm.send(x, 0, 15);
        x.run(1);
        Firm.send(x, 1, 15);
        x.passSignal(1);
        return x;
    }

    public static void main(String[] arguments) {
        promise15Form();
        promise16Dissolve();
        promise17Couple();
        promise18Uncouple();
        promise19Leg();
        promise20Plan();
        promise21Await();
        promise22Run();
        promise23PassSignal();
        promise24Clear();
        Sentences.allSaid(15, 24);
        Check.end();
    }
}
