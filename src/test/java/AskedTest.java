/** Promises 30 to 46: what is asked. */
public final class AskedTest {
    private AskedTest() {
    }

    private static void promises30To33Accounts() {
        Ironbark x = Firm.withTrain(9);
        Check.same("31 cash", x.cash(), 5000 - 500 - 900);
        x.run(7);
        Check.same("30 clock", x.clock(), 7);
        x.borrow(123);
        Check.same("32 debt", x.debt(), 123);
        Check.same("31 cash", x.cash(), 3600 + 123);
        x.lay(2, 3, 60, 0);
        Check.same("31 below 0", x.cash(), 3723 - 6000);
        Check.same("33 none", x.broken(), 0);
        x.fail(0, true);
        Firm.send(x, 0, 0);
        x.passSignal(0);
        Check.same("33 a signal", x.broken(), 5);
        Check.same("33 of each object", new Ironbark().broken(), 0);
        Check.same("33 accident", Firm.withWrecks(0, 0).broken(), 3);
    }

    private static void promise34FreeTracks() {
        Ironbark x = Firm.withTrain(9);
        Check.same("34 one stands", x.freeTracks(0), 1);
        Check.same("34 none there", x.freeTracks(1), 2);
        Firm.send(x, 0, 0, 0);
        Check.same("34 ready, it stands", x.freeTracks(0), 1);
        x.run(1);
        Check.same("34 left", x.freeTracks(0), 2);
        Check.same("34 one runs there", x.freeTracks(1), 1);
        x.run(5);
        Check.same("34 stands there", x.freeTracks(1), 1);
        x.tracks(1, 1);
        Check.same("34 the only one", x.freeTracks(1), 0);
        Check.refused("34 station", Check.INDEX, () -> x.freeTracks(8));
        Check.refused("34 station -1", Check.INDEX, () -> x.freeTracks(-1));
    }

    private static void promises35And36Holders() {
        Ironbark x = Firm.withTrain(9);
        x.lay(1, 0, 4, 0);
        Firm.addTrain(x, 0, 9);
        Check.same("35 by none", x.holder(0), -1);
        Check.same("36 by none", x.holderByTrains(0), -1);
        Firm.send(x, 1, 0);
        x.run(1);
        Check.same("35 by the second", x.holder(0), 1);
        Check.same("36 by the second", x.holderByTrains(0), 1);
        Check.same("35 the other block", x.holder(1), -1);
        Check.same("36 the other block", x.holderByTrains(1), -1);
        x.run(5);
        Check.same("35 until clear", x.holder(0), 1);
        Check.same("36 until clear", x.holderByTrains(0), 1);
        x.run(1);
        Check.same("35 clear", x.holder(0), -1);
        Check.same("36 clear", x.holderByTrains(0), -1);
        Check.refused("35 block", Check.INDEX, () -> x.holder(2));
        Check.refused("36 block", Check.INDEX, () -> x.holderByTrains(2));
        Check.refused("35 block -1", Check.INDEX, () -> x.holder(-1));
        Check.refused("36 block -1", Check.INDEX, () -> x.holderByTrains(-1));
        Ironbark wrecks = Firm.withWrecks(0, 0);
        Check.same("35 wrecks hold none", wrecks.holder(0), -1);
        Check.same("36 wrecks hold none", wrecks.holderByTrains(0), -1);
    }

    private static void promise37Block() {
        Ironbark x = Firm.withTrain(9);
        Check.same("37 of a new one", x.block(0, 0) + x.block(0, 1) + x.block(0, 2), 0);
        x.repair(0);
        x.fail(0, true);
        Check.same("37 closed", x.block(0, 1), 1);
        Check.same("37 failed, not flagged", x.block(0, 2), 0);
        x.flag(0);
        Check.same("37 flagged", x.block(0, 2), 1);
        Check.same("37 wear", x.block(0, 0), 0);
        Check.refused("37 block", Check.INDEX, () -> x.block(1, 0));
        Check.refused("37 what 3", Check.INDEX, () -> x.block(0, 3));
        Check.refused("37 what -1", Check.INDEX, () -> x.block(0, -1));
        Ironbark wrecks = Firm.withWrecks(0, 0);
        Check.same("37 closed by wrecks", wrecks.block(0, 1), 1);
    }

    private static void told(String what, Ironbark x, int train, int... due) {
        for (int i = 0; i < due.length; i++) {
            Check.same("38 " + what + ", " + i, x.train(train, i), due[i]);
        }
    }

    private static void promise38Train() {
        Ironbark x = Firm.withTrain(9);
        x.lay(1, 2, 4, 0);
        Firm.learnAll(x, 0);
        told("new", x, 0, Ironbark.STANDING, 0, -1, 0, 0, 0, -1);
        Firm.addCars(x, 0, 3);
        Firm.send(x, 0, 0, 1);
        told("ready", x, 0, Ironbark.READY, 0, -1, 6, 3, 2, -1);
        x.run(1);
        told("runs", x, 0, Ironbark.RUNNING, 1, 0, 6, 3, 1, 6);
        x.run(5);
        told("runs on", x, 0, Ironbark.RUNNING, 2, 1, 6, 3, 0, 10);
        x.run(4);
        told("is there", x, 0, Ironbark.STANDING, 2, -1, 6, 3, 0, -1);
        Check.refused("38 train", Check.INDEX, () -> x.train(1, 7));
        Check.refused("38 what 7", Check.INDEX, () -> x.train(0, 7));
        Check.refused("38 what -1", Check.INDEX, () -> x.train(0, -1));
        Ironbark wrecks = Firm.withWrecks(2, 1);
        told("wrecked", wrecks, 0, Ironbark.WRECKED, -1, 0, 4, 2, 0, -1);
        told("wrecked", wrecks, 1, Ironbark.WRECKED, -1, 0, 2, 1, 0, -1);
        Ironbark y = Firm.withTrain(9);
        Firm.send(y, 0, 0, 0);
        y.run(6);
        told("ready between", y, 0, Ironbark.READY, 1, -1, 0, 0, 1, -1);
    }

    private static void promise39NotReady() {
        Ironbark x = Firm.withTrain(9);
        Check.same("39 stands", x.barred(0), -1);
        Firm.send(x, 0, 0);
        Check.same("39 nothing bars", x.barred(0), 0);
        x.run(1);
        Check.same("39 runs", x.barred(0), -1);
        Check.same("39 wrecked", Firm.withWrecks(0, 0).barred(0), -1);
    }

    private static void promise40Duty() {
        Ironbark x = Firm.withTrain(9);
        Check.same("40 at first", x.duty(0), 0);
        Firm.send(x, 0, 0, 0);
        x.run(1);
        Check.same("40 as it enters", x.duty(0), 5);
        x.run(6);
        Check.same("40 the sum", x.duty(0), 10);
        x.run(5);
        x.run(1);
        x.dissolve(0);
        Check.same("40 stays", x.duty(0), 10);
        x.rest(0);
        Check.same("40 at rest", x.duty(0), -1);
        Firm.runFor(x, 480);
        Check.same("40 rested", x.duty(0), 0);
        Check.refused("40 crew", Check.INDEX, () -> x.duty(1));
        Check.refused("40 crew -1", Check.INDEX, () -> x.duty(-1));
    }

    private static void where(String what, Ironbark x, int car, int due) {
        Check.same("41 " + what, x.carAt(car), due);
        Check.same("42 " + what, x.carByPapers(car), due);
    }

    private static void promises41To43Cars() {
        Ironbark x = Firm.withTrain(9);
        x.tracks(0, 3);
        Firm.addTrain(x, 0, 9);
        int car = x.car(0);
        where("at home", x, car, 0);
        Check.same("43 empty", x.billOf(car), -1);
        x.offer(0, 2);
        x.load(car, x.offer(0, 1));
        where("loaded", x, car, 0);
        Check.same("43 loaded", x.billOf(car), 1);
        x.couple(1, car);
        where("with the second", x, car, 101);
        Check.same("43 loaded", x.billOf(car), 1);
        Firm.send(x, 1, 0);
        x.run(3);
        where("runs", x, car, 101);
        x.run(3);
        x.uncouple(1, car);
        where("come", x, car, 1);
        x.unload(car);
        where("unloaded", x, car, 1);
        Check.same("43 unloaded", x.billOf(car), -1);
        Check.refused("41 car", Check.INDEX, () -> x.carAt(1));
        Check.refused("42 car", Check.INDEX, () -> x.carByPapers(1));
        Check.refused("43 car", Check.INDEX, () -> x.billOf(1));
        Check.refused("41 car -1", Check.INDEX, () -> x.carAt(-1));
        Check.refused("42 car -1", Check.INDEX, () -> x.carByPapers(-1));
        Check.refused("43 car -1", Check.INDEX, () -> x.billOf(-1));
        int other = x.car(0);
        x.load(other, 0);
        where("loaded with bill 0", x, other, 0);
        x.tracks(0, 4);
        Firm.addTrain(x, 0, 1);
        Firm.addTrain(x, 0, 1);
        x.couple(3, other);
        where("with train 3", x, other, 103);
        Ironbark wrecks = Firm.withWrecks(0, 1);
        where("wrecked", wrecks, 0, 101);
        wrecks.clear(0);
        where("cleared", wrecks, 0, 0);
    }

    private static void promise44Paper() {
        Ironbark x = Firm.withTrain(9);
        x.offer(0, 2);
        x.car(0);
        x.load(0, x.offer(0, 1));
        x.couple(0, 0);
        Firm.send(x, 0, 0);
        x.run(6);
        x.uncouple(0, 0);
        x.unload(0);
        int[] due = {0, 201, 100, 1, 301, -1, -1};
        for (int i = 0; i < due.length; i++) {
            Check.same("44 paper " + i, x.paper(0, i), due[i]);
        }
        Check.same("44 far beyond", x.paper(0, Integer.MAX_VALUE), -1);
        Check.refused("44 car", Check.INDEX, () -> x.paper(1, 0));
        Check.refused("44 paper -1", Check.INDEX, () -> x.paper(0, -1));
        Ironbark y = Firm.withTrain(9);
        y.car(0);
        for (int i = 0; i < 250; i++) {
            y.couple(0, 0);
            y.uncouple(0, 0);
        }
        Check.same("44 all are kept", y.paper(0, 499) * 1000 + y.paper(0, 500), 100000);
        Check.same("44 and no more", y.paper(0, 501), -1);
    }

    private static void promise45YardAt() {
        Ironbark x = Firm.withTrain(9);
        x.car(0);
        x.car(1);
        x.car(0);
        Check.same("45 first", x.yardAt(0, 0), 0);
        Check.same("45 second", x.yardAt(0, 1), 2);
        Check.same("45 no more", x.yardAt(0, 2), -1);
        Check.same("45 far beyond", x.yardAt(0, Integer.MAX_VALUE), -1);
        Check.same("45 another", x.yardAt(1, 0), 1);
        x.couple(0, 0);
        Check.same("45 comes forward", x.yardAt(0, 0), 2);
        x.uncouple(0, 0);
        Check.same("45 as they came", x.yardAt(0, 1), 0);
        Check.refused("45 station", Check.INDEX, () -> x.yardAt(8, 0));
        Check.refused("45 place -1", Check.INDEX, () -> x.yardAt(0, -1));
    }

    /** A car of home 3 at station 0, from where three ways lead there. */
    private static Ironbark withCarFarFromHome() {
        Ironbark x = new Ironbark();
        x.borrow(20000);
        x.lay(0, 3, 9, 0);
        x.lay(0, 1, 2, 0);
        x.lay(1, 2, 3, 0);
        x.lay(3, 2, 3, 3);
        x.lay(3, 0, 10, 0);
        x.car(3);
        Firm.addTrain(x, 3, 9);
        x.couple(0, 0);
        Firm.send(x, 0, 4);
        x.run(13);
        return x;
    }

    private static void promise46Homeward() {
        Ironbark x = withCarFarFromHome();
        Check.same("46 with a train", x.homeward(0), -1);
        x.uncouple(0, 0);
        Check.same("46 three blocks of 8 minutes", x.homeward(0), 1);
        x.couple(0, 0);
        Check.same("46 with a train, elsewhere", x.homeward(0), -1);
        x.uncouple(0, 0);
        x.repair(3);
        Check.same("46 one is closed", x.homeward(0), 0);
        Firm.send(x, 0, 0);
        x.run(1);
        Check.same("46 one is held", x.homeward(0), 4);
        x.repair(4);
        Check.same("46 no way", x.homeward(0), -1);
        x.run(29);
        Check.same("46 open again", x.homeward(0), 1);
        x.car(5);
        Check.same("46 at home", x.homeward(1), -1);
        Check.refused("46 car", Check.INDEX, () -> x.homeward(2));
        Check.refused("46 car -1", Check.INDEX, () -> x.homeward(-1));
    }

    private static void promise46OfTheSameSum() {
        Ironbark x = withCarFarFromHome();
        x.uncouple(0, 0);
        x.lay(0, 3, 8, 0);
        Check.same("46 the lowest block", x.homeward(0), 1);
        x.lay(0, 3, 7, 0);
        Check.same("46 fewer minutes", x.homeward(0), 6);
        x.fail(6, true);
        x.hours(6, 0, 1440);
        Check.same("46 signals and hours do not count", x.homeward(0), 6);
        x.repair(6);
        x.repair(2);
        Check.same("46 the next", x.homeward(0), 5);
    }

    public static void main(String[] arguments) {
        promises30To33Accounts();
        promise34FreeTracks();
        promises35And36Holders();
        promise37Block();
        promise38Train();
        promise39NotReady();
        promise40Duty();
        promises41To43Cars();
        promise44Paper();
        promise45YardAt();
        promise46Homeward();
        promise46OfTheSameSum();
        Check.end();
    }
}
