/** Promises 30 to 46, sentence by sentence: the first and the last, none there, and calls that are refused. */
public final class EdgesAskedTest {
    private static final String STATION = "`station`: 0 to 7";
    private static final String NO_STATION = "Throws `IndexOutOfBoundsException` if there is no such station";
    private static final String ITS_BLOCK = "`block`: its number";
    private static final String NO_BLOCK = "Throws `IndexOutOfBoundsException` if there is no such block";
    private static final String ITS_TRAIN = "`train`: its number";
    private static final String ITS_CAR = "`car`: its number";
    private static final String NO_CAR = "Throws `IndexOutOfBoundsException` if there is no such car";

    private EdgesAskedTest() {
    }

    private static void promises30To33Accounts() {
        Sentences.says(30, "Returns the clock.");
        Check.same("at first", new Ironbark().clock(), 0);
        Check.same("at the end", Firm.atTheEnd().clock(), 20000);
        Sentences.says(31, "Returns the cash.");
        Check.same("at first", new Ironbark().cash(), 5000);
        Ironbark x = new Ironbark();
        x.lay(0, 1, 50, 0);
        Check.same("nothing", x.cash(), 0);
        x.car(0);
        Check.same("less than 0", x.cash(), -50);
        Sentences.says(32, "Returns the debt.");
        Check.same("at first", new Ironbark().debt(), 0);
        Check.same("the most", Firm.full().debt(), 50000);
        Sentences.says(33, "Returns what was broken by the last passed signal; 0 if there was none.");
        Check.same("none", new Ironbark().broken(), 0);
        Check.same("none was passed by trains that run", Firm.busy().broken(), 0);
        Ironbark y = Firm.withTrain(9);
        Firm.addTrain(y, 0, 9);
        y.repair(0);
        Firm.send(y, 0, 0);
        y.passSignal(0);
        Check.same("closed", y.broken(), 4);
        Firm.send(y, 1, 0);
        y.passSignal(1);
        Check.same("held, in place of it", y.broken(), 3);
        y.clear(0);
        Check.same("kept", y.broken(), 3);
        y.fail(0, true);
        y.form(0, 0);
        Firm.send(y, 0, 0);
        y.passSignal(0);
        Check.same("failed, in place of it", y.broken(), 5);
        y.run(300);
        Check.same("kept", y.broken(), 5);
    }

    private static void promise34FreeTracks() {
        Sentences.says(34, "Returns how many tracks of a station are free.");
        Check.same("one runs there, one stands", Firm.busy().freeTracks(1), 0);
        Check.same("one has left", Firm.busy().freeTracks(0), 2);
        Sentences.says(34, STATION);
        Edges.inside(Firm::busy, Ironbark::freeTracks, 0, 7);
        Sentences.says(34, "Returns how many.");
        Ironbark x = Firm.full();
        Check.same("none", x.freeTracks(0), 0);
        x.tracks(0, 4);
        Check.same("two of four", x.freeTracks(0), 2);
        x.tracks(7, 4);
        Check.same("all of four", x.freeTracks(7), 4);
        x.tracks(7, 1);
        Check.same("all of one", x.freeTracks(7), 1);
        Sentences.says(34, NO_STATION);
        Edges.noSuch(Firm::busy, 8, Ironbark::freeTracks);
    }

    private static void holders(String what, Ironbark x, int block, int due) {
        Check.same(what, x.holder(block), due);
        Check.same(what + ", by trains", x.holderByTrains(block), due);
    }

    /** Train 5 of 6, at station 7, is the one that entered block 15 of 16, of 4 minutes to station 0. */
    private static Ironbark withLastTrainInLastBlock() {
        Ironbark x = new Ironbark();
        x.borrow(20000);
        for (int i = 0; i < 16; i++) {
            x.lay(7, 0, 4, 0);
        }
        for (int i = 0; i < 6; i++) {
            x.engine(2 + i, 9);
            x.crew(2 + i);
            x.learn(i, 15);
            x.form(i, i);
        }
        Firm.send(x, 5, 15);
        x.run(1);
        return x;
    }

    private static void promises35And36Holders() {
        Sentences.says(35, "Returns the train by which a block is held.");
        Ironbark x = withLastTrainInLastBlock();
        Check.same("the last", x.holder(15), 5);
        Check.same("the first", Firm.busy().holder(0), 0);
        Sentences.says(35, ITS_BLOCK);
        Edges.inside(Firm::full, Ironbark::holder, 0, 15);
        Sentences.says(35, "Returns the train; NONE if by none.");
        Check.same("never", x.holder(14), Ironbark.NONE);
        x.run(4);
        Check.same("not clear", x.holder(15), 5);
        x.run(1);
        Check.same("clear", x.holder(15), Ironbark.NONE);
        Sentences.says(35, NO_BLOCK);
        Edges.noSuch(Firm::busy, 4, Ironbark::holder);
        Edges.noSuch(Firm::full, 16, Ironbark::holder);
        Sentences.says(36, "Returns the same, by looking at each train, where it is, and of what it is not clear.");
        Ironbark y = withLastTrainInLastBlock();
        holders("where it is", y, 15, 5);
        y.run(3);
        holders("where it is, for its last minute", y, 15, 5);
        y.run(1);
        holders("of what it is not clear", y, 15, 5);
        Sentences.says(36, ITS_BLOCK);
        Edges.inside(Firm::full, Ironbark::holderByTrains, 0, 15);
        Sentences.says(36, "Returns the train; NONE if by none.");
        holders("never", y, 0, Ironbark.NONE);
        holders("not by one that runs elsewhere", withLastTrainInLastBlock(), 14, Ironbark.NONE);
        y.run(1);
        holders("clear", y, 15, Ironbark.NONE);
        holders("wrecked", Firm.withWrecks(1, 1), 0, Ironbark.NONE);
        Sentences.says(36, NO_BLOCK);
        Edges.noSuch(Firm::busy, 4, Ironbark::holderByTrains);
        Edges.noSuch(Firm::full, 16, Ironbark::holderByTrains);
    }

    private static void promise37Block() {
        Sentences.says(37, "Tells of a block.");
        Ironbark x = Firm.busy();
        Check.same("flagged", x.block(3, 2), 1);
        Check.same("and no other one", x.block(2, 2), 0);
        Sentences.says(37, ITS_BLOCK);
        Edges.inside(Firm::full, (y, block) -> y.block(block, 0), 0, 15);
        Sentences.says(37, "`what`: 0 its wear, 1 whether it is closed, 1 or 0, 2 whether it is flagged, 1 or 0");
        x.run(3);
        Check.same("wear", x.block(0, 0), 4);
        x.repair(2);
        Check.same("closed", x.block(2, 0) * 100 + x.block(2, 1) * 10 + x.block(2, 2), 10);
        Check.same("flagged", x.block(3, 0) * 100 + x.block(3, 1) * 10 + x.block(3, 2), 1);
        Sentences.says(37, "Returns as told.");
        Check.same("open, without wear and flag", x.block(1, 0) + x.block(1, 1) + x.block(1, 2), 0);
        Sentences.says(37, "Throws `IndexOutOfBoundsException` if there is no such block, or what is out of range");
        for (int what = 0; what < 3; what++) {
            int w = what;
            Edges.noSuch(Firm::busy, 4, (y, block) -> y.block(block, w));
        }
        Edges.noSuch(Firm::full, 16, (y, block) -> y.block(block, 0));
        Edges.noSuch(Firm::busy, 3, (y, what) -> y.block(0, what));
        Edges.refused("neither", Firm::busy, Check.INDEX, y -> y.block(-1, -1));
    }

    private static void told(String what, Ironbark x, int train, int... due) {
        for (int i = 0; i < due.length; i++) {
            Check.same(what + ", " + i, x.train(train, i), due[i]);
        }
    }

    private static void promise38Train() {
        int none = Ironbark.NONE;
        Sentences.says(38, "Tells of a train.");
        told("runs", Firm.busy(), 0, Ironbark.RUNNING, 1, 0, 6, 3, 1, 6);
        told("stands", Firm.busy(), 1, Ironbark.STANDING, 1, none, 0, 0, 0, none);
        told("is ready", Firm.busy(), 2, Ironbark.READY, 2, none, 0, 0, 1, none);
        Sentences.says(38, ITS_TRAIN);
        Edges.inside(Firm::full, (x, train) -> x.train(train, 0), 0, 5);
        Sentences.says(38, "`what`: 0 its state, 1 the station at which it stands, or to which it runs, 2 the block in which"
            + " it runs or is wrecked, NONE for none, 3 its weight, 4 how many cars it has, 5 how many blocks of its way are"
            + " left, without the one in which it runs, 0 for one that is wrecked, 6 the minute at which it arrives, NONE if"
            + " it does not run");
        Ironbark x = withLastTrainInLastBlock();
        told("the last block", x, 5, Ironbark.RUNNING, 0, 15, 0, 0, 0, 5);
        x.run(3);
        told("its last minute", x, 5, Ironbark.RUNNING, 0, 15, 0, 0, 0, 5);
        x.run(1);
        told("there", x, 5, Ironbark.STANDING, 0, none, 0, 0, 0, none);
        Ironbark eight = Firm.withTrain(9);
        Firm.addCars(eight, 0, 10);
        Firm.send(eight, 0, 0, 0, 0, 0, 0, 0, 0, 0);
        told("eight blocks, ten cars", eight, 0, Ironbark.READY, 0, none, 20, 10, 8, none);
        eight.run(1);
        told("seven left", eight, 0, Ironbark.RUNNING, 1, 0, 20, 10, 7, 7);
        Ironbark end = Firm.atTheEnd();
        end.fail(0, true);
        end.passSignal(0);
        told("it would arrive when the clock has ended", end, 0, Ironbark.RUNNING, 1, 0, 0, 0, 0, 20010);
        Sentences.says(38, "Returns as told; 1 is NONE for one that is wrecked.");
        told("wrecked with cars", wreckedWithWayLeft(), 0, Ironbark.WRECKED, none, 0, 4, 2, 0, none);
        told("wrecked, on its way", wreckedWithWayLeft(), 1, Ironbark.WRECKED, none, 0, 0, 0, 0, none);
        Sentences.says(38, "Throws `IndexOutOfBoundsException` if there is no such train, or what is out of range");
        for (int what = 0; what < 7; what++) {
            int w = what;
            Edges.noSuch(Firm::busy, 3, (y, train) -> y.train(train, w));
        }
        Edges.noSuch(Firm::full, 6, (y, train) -> y.train(train, 0));
        Edges.noSuch(Firm::busy, 7, (y, what) -> y.train(0, what));
        Edges.refused("neither", Firm::busy, Check.INDEX, y -> y.train(-1, -1));
    }

    /** Both had more blocks of their ways left. */
    private static Ironbark wreckedWithWayLeft() {
        Ironbark x = Firm.withTrain(9);
        Firm.addTrain(x, 0, 9);
        Firm.addCars(x, 0, 2);
        Firm.send(x, 0, 0, 0, 0);
        x.run(2);
        Firm.send(x, 1, 0, 0);
        x.passSignal(1);
        return x;
    }

    private static void promise39Barred() {
        Sentences.says(39, "Tells what bars a train.");
        Check.same("its minute", Firm.busy().barred(2), 1);
        Sentences.says(39, ITS_TRAIN);
        Edges.inside(Firm::full, Ironbark::barred, 0, 5);
        Sentences.says(39, "Returns 1 to 10; 0 if nothing does; NONE if it is not ready.");
        Ironbark x = Firm.withTrain(9);
        Check.same("without a way", x.barred(0), Ironbark.NONE);
        x.tracks(1, 1);
        Firm.addTrain(x, 1, 9);
        Firm.send(x, 0, 0);
        Check.same("the last one", x.barred(0), 10);
        x.dissolve(1);
        Check.same("nothing", x.barred(0), 0);
        x.run(1);
        Check.same("runs", x.barred(0), Ironbark.NONE);
        Check.same("is wrecked", Firm.withWrecks(0, 0).barred(0), Ironbark.NONE);
        Sentences.says(39, "Throws `IndexOutOfBoundsException` if there is no such train");
        Edges.noSuch(Firm::busy, 3, Ironbark::barred);
        Edges.noSuch(Firm::full, 6, Ironbark::barred);
    }

    private static void promise40Duty() {
        Sentences.says(40, "Returns the duty of a crew.");
        Check.same("of the one that runs", Firm.busy().duty(0), 5);
        Check.same("of another one", Firm.busy().duty(1), 0);
        Sentences.says(40, "`crew`: its number");
        Edges.inside(Firm::full, Ironbark::duty, 0, 5);
        Sentences.says(40, "Returns the minutes; NONE if it is at rest.");
        Ironbark x = Firm.withTrain(9);
        Check.same("none yet", x.duty(0), 0);
        Firm.send(x, 0, 0);
        x.run(6);
        Check.same("some", x.duty(0), 5);
        x.rest(0);
        Check.same("at rest, at once", x.duty(0), Ironbark.NONE);
        Firm.runFor(x, 479);
        Check.same("for the last minute", x.duty(0), Ironbark.NONE);
        x.run(1);
        Check.same("none again", x.duty(0), 0);
        Sentences.says(40, "Throws `IndexOutOfBoundsException` if there is no such crew");
        Edges.noSuch(Firm::busy, 5, Ironbark::duty);
        Edges.noSuch(Firm::full, 6, Ironbark::duty);
    }

    /** Car 19 of 20 is with train 5 of 6, at station 7. */
    private static Ironbark withLastCarAndTrain() {
        Ironbark x = new Ironbark();
        for (int i = 0; i < 6; i++) {
            x.engine(2 + i, 9);
            x.crew(2 + i);
            x.form(i, i);
        }
        for (int i = 0; i < 20; i++) {
            x.car(7);
        }
        x.couple(5, 19);
        return x;
    }

    private static void promises41And42Places() {
        Sentences.says(41, "Returns where a car is.");
        Check.same("at a station", Firm.busy().carAt(3), 0);
        Check.same("with a train that runs", Firm.busy().carAt(2), 100);
        Sentences.says(41, ITS_CAR);
        Edges.inside(Firm::full, Ironbark::carAt, 0, 19);
        Sentences.says(41, "Returns the station; 100 and the train, together, if it is with one.");
        Check.same("the last station", withLastCarAndTrain().carAt(18), 7);
        Check.same("the last train", withLastCarAndTrain().carAt(19), 105);
        Check.same("with wrecks", Firm.withWrecks(1, 1).carAt(1), 101);
        Sentences.says(41, NO_CAR);
        Edges.noSuch(Firm::busy, 6, Ironbark::carAt);
        Edges.noSuch(Firm::full, 20, Ironbark::carAt);
        Sentences.says(42, "Returns the same, by its papers.");
        Ironbark x = Firm.busy();
        for (int car = 0; car < 6; car++) {
            Check.same("car " + car, x.carByPapers(car), x.carAt(car));
        }
        Check.same("behind a paper of a load", x.carByPapers(3), 0);
        Sentences.says(42, ITS_CAR);
        Edges.inside(Firm::full, Ironbark::carByPapers, 0, 19);
        Sentences.says(42, "Returns the station; 100 and the train, together.");
        Check.same("the last station", withLastCarAndTrain().carByPapers(18), 7);
        Check.same("the last train", withLastCarAndTrain().carByPapers(19), 105);
        Check.same("with wrecks", Firm.withWrecks(1, 1).carByPapers(1), 101);
        Ironbark cleared = Firm.withWrecks(1, 1);
        cleared.clear(0);
        Check.same("cleared", cleared.carByPapers(1), 0);
        Sentences.says(42, NO_CAR);
        Edges.noSuch(Firm::busy, 6, Ironbark::carByPapers);
        Edges.noSuch(Firm::full, 20, Ironbark::carByPapers);
    }

    private static void promise43BillOf() {
        Sentences.says(43, "Returns the bill with which a car is loaded.");
        Check.same("loaded", Firm.busy().billOf(3), 0);
        Check.same("loaded", Firm.busy().billOf(4), 1);
        Sentences.says(43, ITS_CAR);
        Edges.inside(Firm::full, Ironbark::billOf, 0, 19);
        Sentences.says(43, "Returns the bill; NONE if it is empty.");
        Ironbark x = Firm.full();
        Check.same("empty", x.billOf(0), Ironbark.NONE);
        x.load(17, 39);
        Check.same("the last bill", x.billOf(17), 39);
        x.load(0, 0);
        x.couple(0, 0);
        Check.same("with a train", x.billOf(0), 0);
        Sentences.says(43, NO_CAR);
        Edges.noSuch(Firm::busy, 6, Ironbark::billOf);
        Edges.noSuch(Firm::full, 20, Ironbark::billOf);
    }

    private static void promise44Paper() {
        Sentences.says(44, "Returns a paper of a car.");
        Check.same("its home", Firm.busy().paper(3, 0), 0);
        Check.same("its load", Firm.busy().paper(3, 1), 200);
        Sentences.says(44, ITS_CAR);
        Edges.inside(Firm::full, (x, car) -> x.paper(car, 0), 0, 19);
        Sentences.says(44, "`paper`: from 0");
        Edges.inside(Firm::busy, (x, paper) -> x.paper(0, paper), 0, 1, 1000, Integer.MAX_VALUE);
        Sentences.says(44, "Returns 100 times its kind, and the station, train or bill, together; NONE if there are not so"
            + " many.");
        Ironbark last = withLastCarAndTrain();
        Check.same("a station", last.paper(19, 0), 100 * Ironbark.STATION + 7);
        Check.same("a train", last.paper(19, 1), 100 * Ironbark.TRAIN + 5);
        Check.same("not so many", last.paper(19, 2), Ironbark.NONE);
        Check.same("not so many, by far", last.paper(19, Integer.MAX_VALUE), Ironbark.NONE);
        Ironbark full = Firm.full();
        full.load(17, 39);
        Check.same("a bill", full.paper(17, 1), 100 * Ironbark.LOADED + 39);
        Check.same("not so many", full.paper(17, 2), Ironbark.NONE);
        Sentences.says(44, "Throws `IndexOutOfBoundsException` if there is no such car, or paper is below 0");
        Edges.noSuch(Firm::busy, 6, (x, car) -> x.paper(car, 0));
        Edges.noSuch(Firm::full, 20, (x, car) -> x.paper(car, 0));
        for (int paper : new int[] {-1, -2, Integer.MIN_VALUE}) {
            Edges.refused("paper " + paper, Firm::busy, Check.INDEX, x -> x.paper(0, paper));
        }
        Edges.refused("neither", Firm::busy, Check.INDEX, x -> x.paper(6, -1));
    }

    private static void promise45YardAt() {
        Sentences.says(45, "Returns a car of a yard.");
        Check.same("the first", Firm.busy().yardAt(1, 0), 4);
        Check.same("the second", Firm.busy().yardAt(1, 1), 5);
        Sentences.says(45, STATION);
        Edges.inside(Firm::busy, (x, station) -> x.yardAt(station, 0), 0, 7);
        Sentences.says(45, "`place`: from 0");
        Edges.inside(Firm::busy, (x, place) -> x.yardAt(1, place), 0, 1, 20, Integer.MAX_VALUE);
        Sentences.says(45, "Returns the car; NONE if there are not so many.");
        Check.same("the last", withLastCarAndTrain().yardAt(7, 18), 18);
        Check.same("not so many", withLastCarAndTrain().yardAt(7, 19), Ironbark.NONE);
        Check.same("not so many, by far", withLastCarAndTrain().yardAt(7, Integer.MAX_VALUE), Ironbark.NONE);
        Check.same("an empty yard", new Ironbark().yardAt(0, 0), Ironbark.NONE);
        Sentences.says(45, "Throws `IndexOutOfBoundsException` if there is no such station, or place is below 0");
        Edges.noSuch(Firm::busy, 8, (x, station) -> x.yardAt(station, 0));
        for (int place : new int[] {-1, -2, Integer.MIN_VALUE}) {
            Edges.refused("place " + place, Firm::busy, Check.INDEX, x -> x.yardAt(1, place));
        }
        Edges.refused("neither", Firm::busy, Check.INDEX, x -> x.yardAt(8, -1));
    }

    /** Car 0, of home 0, was brought over block 0 to station 1, where the train stands. */
    private static Ironbark awayFromHome() {
        Ironbark x = Firm.withTrain(9);
        Firm.addCars(x, 0, 1);
        Firm.send(x, 0, 0);
        x.run(6);
        x.uncouple(0, 0);
        return x;
    }

    private static void promise46Homeward() {
        Sentences.says(46, "Returns the next block on the way home of a car.");
        Ironbark x = awayFromHome();
        Check.same("held", x.homeward(0), Ironbark.NONE);
        x.run(1);
        Check.same("clear", x.homeward(0), 0);
        Sentences.says(46, ITS_CAR);
        Edges.inside(Firm::full, Ironbark::homeward, 0, 19);
        Sentences.says(46, "Returns the block; NONE if it is at home or with a train, or there is no way.");
        Check.same("at home", Firm.busy().homeward(3), Ironbark.NONE);
        Check.same("with a train", Firm.busy().homeward(0), Ironbark.NONE);
        Check.same("there is no block", withLastCarAndTrain().homeward(0), Ironbark.NONE);
        x.couple(0, 0);
        Check.same("with a train, away", x.homeward(0), Ironbark.NONE);
        x.uncouple(0, 0);
        x.repair(0);
        Check.same("there is no way", x.homeward(0), Ironbark.NONE);
        x.run(29);
        Check.same("nor yet", x.homeward(0), Ironbark.NONE);
        x.run(1);
        Check.same("open again", x.homeward(0), 0);
        for (int i = 1; i < 15; i++) {
            x.lay(0, 1, 6, 0);
        }
        Check.same("the others are longer", x.homeward(0), 0);
        Check.same("the last", x.lay(1, 0, 4, 0), 15);
        Check.same("is shorter", x.homeward(0), 15);
        Sentences.says(46, NO_CAR);
        Edges.noSuch(Firm::busy, 6, Ironbark::homeward);
        Edges.noSuch(Firm::full, 20, Ironbark::homeward);
    }

    public static void main(String[] arguments) {
        promises30To33Accounts();
        promise34FreeTracks();
        promises35And36Holders();
        promise37Block();
        promise38Train();
        promise39Barred();
        promise40Duty();
        promises41And42Places();
        promise43BillOf();
        promise44Paper();
        promise45YardAt();
        promise46Homeward();
        Sentences.allSaid(30, 46);
        Check.end();
    }
}
