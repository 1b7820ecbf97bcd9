/** Promises 15 to 21, 23 and 24: trains, their ways, passed signals and wrecks. */
public final class TrainsTest {
    private TrainsTest() {
    }

    private static void promise15Form() {
        Ironbark x = new Ironbark();
        for (int i = 0; i < 6; i++) {
            x.engine(i / 3, 1);
            x.crew(i / 3);
        }
        Check.refused("15 engine", Check.INDEX, () -> x.form(6, 0));
        Check.refused("15 crew", Check.INDEX, () -> x.form(0, -1));
        Check.refused("15 two stations", Check.STATE, () -> x.form(0, 3));
        Check.same("15 first", x.form(1, 2), 0);
        Check.same("15 stands", x.train(0, 0), Ironbark.STANDING);
        Check.same("15 at its station", x.train(0, 1), 0);
        Check.refused("15 engine with a train", Check.STATE, () -> x.form(1, 0));
        Check.refused("15 crew with a train", Check.STATE, () -> x.form(0, 2));
        x.rest(0);
        Check.refused("15 crew at rest", Check.STATE, () -> x.form(0, 0));
        Check.same("15 second", x.form(0, 1), 1);
        Firm.runFor(x, 480);
        Check.refused("15 no track is free", Check.STATE, () -> x.form(2, 0));
        x.tracks(0, 3);
        Check.same("15 a third track, the rest is over", x.form(2, 0), 2);
        x.dissolve(1);
        x.dissolve(0);
        Check.same("15 the least number", x.form(3, 3), 0);
        Check.same("15 the next", x.form(4, 4), 1);
        Check.same("15 none left of 0 to 2", x.form(0, 1), 3);
    }

    private static void promise15FormsAnew() {
        Ironbark x = Firm.withTrain(1);
        x.lay(1, 0, 3, 0);
        x.await(0, Ironbark.NONE, 0);
        Firm.addTrain(x, 0, 1);
        x.await(0, 1, 0);
        x.dissolve(1);
        x.leg(0);
        x.leg(0);
        x.plan(0, 50, 7);
        Check.same("15 waits", x.barred(0), 1);
        x.dissolve(0);
        Check.same("15 formed again", x.form(0, 0), 0);
        Check.same("15 without a way", x.train(0, 0), Ironbark.STANDING);
        Check.same("15 no block left", x.train(0, 5), 0);
        Firm.send(x, 0, 0);
        Check.same("15 waits for none", x.barred(0), 0);
        x.run(7);
        x.dissolve(0);
        x.engine(1, 1);
        Check.same("15 formed where it came", x.form(2, 0), 0);
        Check.same("15 has no way", x.train(0, 5), 0);
        Check.same("15 and runs nowhere", x.train(0, 2) + x.train(0, 6), -2);
    }

    private static void promise16Dissolve() {
        Ironbark x = Firm.withTrain(1);
        int car = Firm.addCars(x, 0, 1);
        Check.refused("16 has a car", Check.STATE, () -> x.dissolve(0));
        x.uncouple(0, car);
        Firm.send(x, 0, 0);
        x.run(1);
        Check.refused("16 runs", Check.STATE, () -> x.dissolve(0));
        x.run(5);
        Check.same("16 stands", x.train(0, 0), Ironbark.STANDING);
        Check.refused("16 is not clear", Check.STATE, () -> x.dissolve(0));
        x.run(1);
        Check.same("16 the station", x.dissolve(0), 1);
        Check.refused("16 no more", Check.INDEX, () -> x.dissolve(0));
        Check.refused("16 no more", Check.INDEX, () -> x.train(0, 0));
        Check.same("16 the track is free", x.freeTracks(1), 2);
        x.engine(1, 1);
        Check.same("16 the crew is there", x.form(1, 0), 0);
        x.dissolve(0);
        x.crew(1);
        Check.same("16 the engine is there", x.form(0, 1), 0);
        Firm.learnAll(x, 1);
        Firm.send(x, 0, 0);
        Check.same("16 ready", x.dissolve(0), 1);
        Check.refused("16 train 6", Check.INDEX, () -> x.dissolve(6));
        Check.refused("16 train -1", Check.INDEX, () -> x.dissolve(-1));
        Ironbark wrecks = Firm.withWrecks(0, 0);
        Check.refused("16 wrecked", Check.STATE, () -> wrecks.dissolve(0));
    }

    private static void promise17Couple() {
        Ironbark x = Firm.withTrain(9);
        x.tracks(0, 3);
        Firm.addTrain(x, 0, 9);
        for (int i = 0; i < 12; i++) {
            x.car(i == 11 ? 1 : 0);
        }
        Check.refused("17 train", Check.INDEX, () -> x.couple(2, 0));
        Check.refused("17 car", Check.INDEX, () -> x.couple(0, 12));
        Check.refused("17 elsewhere", Check.STATE, () -> x.couple(0, 11));
        Check.same("17 one", x.couple(0, 3), 1);
        Check.same("17 where", x.carAt(3), 100);
        Check.same("17 paper", x.paper(3, 1), 100);
        Check.same("17 the yard ahead of it", x.yardAt(0, 0) * 10 + x.yardAt(0, 2), 2);
        Check.same("17 the yard goes on", x.yardAt(0, 3), 4);
        Check.refused("17 with this train", Check.STATE, () -> x.couple(0, 3));
        Check.refused("17 with another train", Check.STATE, () -> x.couple(1, 3));
        Check.same("17 by the other one", x.couple(1, 10), 1);
        Check.same("17 paper of train 1", x.paper(10, 1), 101);
        for (int i = 0; i < 10; i++) {
            if (i != 3) {
                x.couple(0, i);
            }
        }
        Check.same("17 ten", x.train(0, 4), 10);
        x.uncouple(1, 10);
        Check.refused("17 an eleventh", Check.STATE, () -> x.couple(0, 10));
        Firm.send(x, 1, 0);
        Check.same("17 ready", x.couple(1, 10), 1);
        x.uncouple(1, 10);
        x.run(1);
        Check.refused("17 runs", Check.STATE, () -> x.couple(1, 10));
    }

    private static void promise18Uncouple() {
        Ironbark x = Firm.withTrain(9);
        Firm.addTrain(x, 0, 9);
        Firm.addCars(x, 0, 3);
        x.car(1);
        Check.refused("18 train", Check.INDEX, () -> x.uncouple(2, 0));
        Check.refused("18 car", Check.INDEX, () -> x.uncouple(0, 4));
        Check.refused("18 not with it", Check.STATE, () -> x.uncouple(1, 0));
        Check.refused("18 with none", Check.STATE, () -> x.uncouple(0, 3));
        Firm.send(x, 0, 0, 0);
        x.run(1);
        Check.refused("18 runs", Check.STATE, () -> x.uncouple(0, 0));
        x.run(5);
        Check.same("18 the middle one", x.uncouple(0, 1), 2);
        Check.same("18 where", x.carAt(1), 1);
        Check.same("18 end of the yard", x.yardAt(1, 1), 1);
        Check.same("18 paper", x.paper(1, 2), 1);
        Check.same("18 the last", x.uncouple(0, 2), 1);
        Check.same("18 end of the yard", x.yardAt(1, 2), 2);
        Check.same("18 weight", x.train(0, 3), 2);
        Check.same("18 the first is with it", x.carAt(0), 100);
        Check.same("18 again", x.couple(0, 1), 2);
        Check.same("18 the yard goes on", x.yardAt(1, 1), 2);
    }

    private static void promise19Leg() {
        Ironbark x = Firm.withTrain(1);
        Check.refused("19 block", Check.INDEX, () -> x.leg(1));
        Check.refused("19 block -1", Check.INDEX, () -> x.leg(-1));
        for (int i = 1; i <= 8; i++) {
            Check.same("19 so many", x.leg(0), i);
        }
        Check.refused("19 has 8", Check.STATE, () -> x.leg(0));
        Check.refused("19 block first", Check.INDEX, () -> x.leg(1));
        Check.same("19 back at the station", x.plan(0, 0, 0), 0);
        Check.same("19 eight", x.train(0, 5), 8);
        Check.same("19 none drafted then", x.leg(0), 1);
    }

    private static void promise20Plan() {
        Ironbark x = Firm.withTrain(1);
        x.lay(1, 2, 5, 0);
        Check.refused("20 none drafted", Check.STATE, () -> x.plan(0, 0, 0));
        x.leg(0);
        x.leg(1);
        Check.refused("20 train", Check.INDEX, () -> x.plan(1, -1, 0));
        Check.refused("20 minute -1", Check.ARGUMENT, () -> x.plan(0, -1, 0));
        Check.refused("20 minute 20001", Check.ARGUMENT, () -> x.plan(0, 20001, 0));
        Check.refused("20 rank -1", Check.ARGUMENT, () -> x.plan(0, 0, -1));
        Check.refused("20 rank 10", Check.ARGUMENT, () -> x.plan(0, 0, 10));
        Check.same("20 where it ends", x.plan(0, 20000, 9), 2);
        Check.same("20 ready", x.train(0, 0), Ironbark.READY);
        Check.same("20 blocks left", x.train(0, 5), 2);
        x.leg(1);
        Check.refused("20 not from its station", Check.STATE, () -> x.plan(0, 0, 0));
        Check.refused("20 range first", Check.ARGUMENT, () -> x.plan(0, 0, 10));
        Check.same("20 the draft stays", x.leg(1), 2);
        Check.same("20 the way stays", x.train(0, 5), 2);
        Check.same("20 bars", x.barred(0), 1);
    }

    private static void promise20PlanAnew() {
        Ironbark x = Firm.withTrain(1);
        x.lay(1, 2, 5, 0);
        Firm.learnAll(x, 0);
        x.leg(0);
        x.leg(1);
        x.plan(0, 100, 0);
        x.leg(0);
        Check.same("20 in place of the old", x.plan(0, 1, 0), 1);
        Check.same("20 one block", x.train(0, 5), 1);
        x.run(1);
        x.leg(1);
        Check.refused("20 runs", Check.STATE, () -> x.plan(0, 0, 0));
        x.run(5);
        Check.same("20 stands", x.plan(0, 100, 0), 2);
        Check.same("20 its first block", x.barred(0), 1);
        x.leg(0);
        x.leg(1);
        Check.refused("20 a gap", Check.STATE, () -> x.plan(0, 0, 0));
        Ironbark wrecks = Firm.withWrecks(0, 0);
        wrecks.leg(0);
        Check.refused("20 wrecked", Check.STATE, () -> wrecks.plan(0, 0, 0));
    }

    private static void promise21Await() {
        Ironbark x = Firm.withTrain(1);
        Firm.addTrain(x, 1, 1);
        Check.refusedDeed("21 train", Check.INDEX, () -> x.await(2, 1, 0));
        Check.refusedDeed("21 other", Check.INDEX, () -> x.await(0, 2, 0));
        Check.refusedDeed("21 other -2", Check.INDEX, () -> x.await(0, -2, 0));
        Check.refusedDeed("21 station", Check.INDEX, () -> x.await(0, 0, 8));
        Check.refusedDeed("21 station, of none", Check.INDEX, () -> x.await(0, -1, -1));
        Check.refusedDeed("21 the same", Check.STATE, () -> x.await(0, 0, 0));
        x.leg(0);
        x.leg(0);
        x.plan(0, 0, 5);
        Check.same("21 not barred", x.barred(0), 0);
        x.await(0, 1, 0);
        Check.same("21 waits", x.barred(0), 2);
        x.await(0, 1, 1);
        Check.same("21 elsewhere, in place of it", x.barred(0), 0);
        x.await(0, 1, 0);
        x.await(0, Ironbark.NONE, 0);
        Check.same("21 for none", x.barred(0), 0);
        x.await(0, 1, 0);
        Firm.send(x, 1, 0);
        x.run(6);
        Check.same("21 the other runs, then stands", x.train(1, 0), Ironbark.STANDING);
        Check.same("21 held until clear", x.barred(0), 3);
        x.run(1);
        Check.same("21 leaves", x.train(0, 0), Ironbark.RUNNING);
    }

    private static void promise21AwaitEnds() {
        Ironbark x = Firm.withTrain(1);
        int other = Firm.addTrain(x, 0, 1);
        x.await(0, other, 0);
        Firm.send(x, 0, 0, 0, 0);
        x.run(1);
        Check.same("21 the other one stands", x.train(0, 0), Ironbark.RUNNING);
        x.run(6);
        Check.same("21 on its way back", x.train(0, 1), 0);
        x.dissolve(other);
        x.run(5);
        Check.same("21 waits no more: it had left", x.barred(0), 3);
        x.await(0, Firm.addTrain(x, 0, 1), 0);
        x.dissolve(1);
        Check.same("21 none of that number", x.barred(0), 2);
        x.form(1, 1);
        Check.same("21 another one of that number", x.barred(0), 3);
        x.run(1);
        Check.same("21 leaves", x.train(0, 1), 1);
        x.await(0, 1, 0);
        x.dissolve(1);
        x.run(7);
        Firm.send(x, 0, 0);
        Check.same("21 waiting begins where it was told", x.train(0, 0), Ironbark.READY);
        Check.same("21 not at this station", x.barred(0), 0);
        x.run(6);
        x.run(1);
        Firm.send(x, 0, 0);
        Check.same("21 but at that one", x.barred(0), 2);
    }

    private static void promise23Broken() {
        Ironbark x = Firm.withTrain(1);
        Check.refused("23 train", Check.INDEX, () -> x.passSignal(1));
        Check.refused("23 not ready", Check.STATE, () -> x.passSignal(0));
        Firm.send(x, 0, 0, 0);
        Check.refused("23 not barred", Check.STATE, () -> x.passSignal(0));
        x.fail(0, true);
        int cash = x.cash();
        Check.same("23 a failed signal", x.passSignal(0), true);
        Check.same("23 cost", x.cash(), cash - 50);
        Check.same("23 was broken", x.broken(), 5);
        Check.same("23 runs at once, twice as long", x.train(0, 6), 10);
        Check.same("23 holds", x.holder(0), 0);
        Check.same("23 duty", x.duty(0), 10);
        Check.same("23 blocks left", x.train(0, 5), 1);
        x.run(10);
        Check.same("23 ready", x.train(0, 0), Ironbark.READY);
        Check.refused("23 holds it itself", Check.STATE, () -> x.passSignal(0));
        x.run(1);
        x.fail(0, false);
        x.repair(0);
        x.fail(0, true);
        x.flag(0);
        Check.same("23 closed", x.barred(0), 4);
        Check.same("23 a closed block", x.passSignal(0), true);
        Check.same("23 was broken", x.broken(), 4);
        Check.same("23 a flag is gone", x.block(0, 2), 0);
        Check.same("23 closed all the same", x.block(0, 1), 1);
    }

    private static void promise23BarredBesides() {
        Ironbark x = Firm.withTrain(1);
        x.fail(0, true);
        x.leg(0);
        x.plan(0, 1, 0);
        Check.refused("23 by 1", Check.STATE, () -> x.passSignal(0));
        Firm.send(x, 0, 0);
        Firm.addTrain(x, 1, 1);
        x.await(0, 1, 0);
        Check.refused("23 by 2", Check.STATE, () -> x.passSignal(0));
        x.await(0, -1, 0);
        x.hours(0, 11, 12);
        Check.same("23 by 5 first", x.barred(0), 5);
        x.hours(0, 10, 11);
        Check.refused("23 by 6, as long as it runs there", Check.STATE, () -> x.passSignal(0));
        x.hours(0, 0, 0);
        Firm.addCars(x, 0, 5);
        Check.refused("23 by 7", Check.STATE, () -> x.passSignal(0));
        x.uncouple(0, 0);
        x.tracks(1, 1);
        Check.refused("23 by 10", Check.STATE, () -> x.passSignal(0));
        x.tracks(1, 2);
        x.rest(0);
        Check.refused("23 by 9", Check.STATE, () -> x.passSignal(0));
        Check.same("23 none was passed", x.broken(), 0);
        Ironbark y = new Ironbark();
        y.engine(0, 1);
        y.crew(0);
        y.form(0, 0);
        y.lay(0, 1, 2, 0);
        y.fail(0, true);
        Firm.send(y, 0, 0);
        Check.refused("23 by 8", Check.STATE, () -> y.passSignal(0));
    }

    private static void promise23Accident() {
        Ironbark x = Firm.withTrain(9);
        x.lay(1, 2, 4, 0);
        Firm.learnAll(x, 0);
        Firm.addTrain(x, 0, 9);
        Firm.addCars(x, 0, 8);
        Firm.send(x, 0, 0, 1);
        x.fail(0, true);
        x.flag(0);
        Firm.runFor(x, 1);
        x.flag(0);
        Firm.runFor(x, 12);
        Check.same("23 farther on", x.train(0, 2), 1);
        Check.same("23 holds both", x.holder(0) * 10 + x.holder(1), 0);
        Firm.send(x, 1, 0);
        int duty = x.duty(0);
        int cash = x.cash();
        Check.same("23 accident", x.passSignal(1), false);
        Check.same("23 cost", x.cash(), cash - 50);
        Check.same("23 was broken", x.broken(), 3);
        Check.same("23 both wrecked", x.train(0, 0) * 10 + x.train(1, 0), 33);
        Check.same("23 in this block", x.train(0, 2) * 10 + x.train(1, 2), 0);
        Check.same("23 at no station", x.train(0, 1) * 10 + x.train(1, 1), -11);
        Check.same("23 no way", x.train(0, 5) + x.train(1, 5), 0);
        Check.same("23 no arrival", x.train(0, 6), -1);
        Check.same("23 free", x.holder(0) + x.holder(1) + x.holderByTrains(0) + x.holderByTrains(1), -4);
        Check.same("23 this one is closed", x.block(0, 1) * 10 + x.block(1, 1), 10);
        Check.same("23 a flag stays", x.block(0, 2), 1);
        Check.same("23 no duty", x.duty(1), 0);
        Check.same("23 nor for the other", x.duty(0), duty);
        Check.same("23 cars", x.train(0, 4), 8);
        Check.same("23 tracks", x.freeTracks(0) * 100 + x.freeTracks(1) * 10 + x.freeTracks(2), 222);
        Check.same("23 not ready", x.barred(1), -1);
        Firm.runFor(x, 100);
        Check.same("23 closed until it is cleared", x.block(0, 1), 1);
    }

    private static void promise23AccidentOfOneThatStands() {
        Ironbark x = Firm.withTrain(9);
        Firm.addTrain(x, 1, 9);
        Firm.addTrain(x, 0, 9);
        Firm.addCars(x, 0, 4);
        Firm.send(x, 0, 0);
        x.run(7);
        Check.same("23 stands and is not clear", x.train(0, 0) + x.holder(0), 0);
        x.tracks(1, 3);
        Firm.send(x, 2, 0);
        Firm.send(x, 1, 0);
        Check.same("23 accident", x.passSignal(1), false);
        Check.same("23 wrecked", x.train(0, 0), Ironbark.WRECKED);
        Check.same("23 no wear but that of the arrival", x.block(0, 0), 5);
        Check.same("23 closed to the third", x.barred(2), 4);
        Check.refused("23 wrecks in it", Check.STATE, () -> x.passSignal(2));
        Check.refused("23 wrecked, not ready", Check.STATE, () -> x.passSignal(0));
        x.clear(0);
        Check.same("23 open to the third", x.run(1), 1);
    }

    private static void promise24Clear() {
        Ironbark x = Firm.withWrecks(3, 2);
        x.car(0);
        Check.refused("24 block", Check.INDEX, () -> x.clear(1));
        x.lay(0, 1, 2, 0);
        Check.refused("24 no wrecks", Check.STATE, () -> x.clear(1));
        int cash = x.cash();
        Check.same("24 trains", x.clear(0), 2);
        Check.same("24 cost", x.cash(), cash - 500);
        Check.same("24 open", x.block(0, 1), 0);
        Check.refused("24 no more", Check.INDEX, () -> x.train(0, 0));
        Check.refused("24 no more", Check.INDEX, () -> x.train(1, 0));
        Check.refused("24 cleared", Check.STATE, () -> x.clear(0));
        int[] yard = {5, 0, 1, 2, 3, 4, -1};
        for (int i = 0; i < yard.length; i++) {
            Check.same("24 yard " + i, x.yardAt(0, i), yard[i]);
        }
        Check.same("24 came there", x.carAt(4), 0);
        Check.same("24 paper", x.paper(4, 2), 0);
        Check.same("24 engine and crew", x.form(1, 0), 0);
        Check.same("24 the others too", x.form(0, 1), 1);
        Check.same("24 no cars", x.train(0, 4) + x.train(0, 3), 0);
        Check.same("24 in no block", x.train(0, 2), -1);
        Check.same("24 no way", x.train(0, 5), 0);
    }

    private static void promise24HoldsNothingThen() {
        Ironbark x = new Ironbark();
        x.lay(0, 1, 10, 0);
        x.lay(1, 2, 10, 0);
        Firm.addTrain(x, 0, 9);
        Firm.addTrain(x, 0, 9);
        Firm.addTrain(x, 2, 9);
        Firm.send(x, 0, 0, 1);
        x.run(11);
        Firm.send(x, 1, 0);
        Check.same("24 holds both", x.holderByTrains(0) + x.holderByTrains(1), 0);
        x.passSignal(1);
        Check.same("24 wrecked, holds none", x.holderByTrains(0) + x.holderByTrains(1), -2);
        x.clear(0);
        Check.same("24 no more, holds none", x.holderByTrains(0) + x.holderByTrains(1), -2);
        x.form(0, 0);
        Check.same("24 formed anew, holds none", x.holderByTrains(0) + x.holderByTrains(1), -2);
        Check.same("24 and is clear", x.dissolve(0), 0);
    }

    private static void promise24ClearsOneBlock() {
        Ironbark x = new Ironbark();
        for (int i = 0; i < 2; i++) {
            x.lay(1, 0, 20, 0);
        }
        x.tracks(0, 4);
        for (int i = 0; i < 4; i++) {
            Firm.addTrain(x, 0, 9);
        }
        Firm.addCars(x, 3, 2);
        x.uncouple(3, 0);
        x.couple(3, 0);
        Firm.addCars(x, 1, 1);
        x.repair(1);
        Firm.send(x, 1, 1);
        x.passSignal(1);
        Firm.send(x, 0, 0);
        x.run(1);
        Firm.send(x, 2, 0);
        Firm.send(x, 3, 1);
        x.tracks(1, 4);
        x.passSignal(2);
        Check.same("24 held counts ahead of closed", x.barred(3), 3);
        x.passSignal(3);
        Check.same("24 the second alone", x.clear(1), 2);
        Check.same("24 not closed by repair any more", x.block(1, 1), 0);
        Check.same("24 the first still", x.block(0, 1), 1);
        Check.same("24 its trains still", x.train(0, 0) + x.train(2, 0), 6);
        Check.same("24 by trains, as coupled: 2", x.yardAt(1, 0), 2);
        Check.same("24 by trains, as coupled: 1", x.yardAt(1, 1), 1);
        Check.same("24 by trains, as coupled: 0", x.yardAt(1, 2), 0);
        Check.same("24 the least number", x.form(3, 3), 1);
        Check.same("24 at the first end", x.train(1, 1), 1);
    }

    public static void main(String[] arguments) {
        promise15Form();
        promise15FormsAnew();
        promise16Dissolve();
        promise17Couple();
        promise18Uncouple();
        promise19Leg();
        promise20Plan();
        promise20PlanAnew();
        promise21Await();
        promise21AwaitEnds();
        promise23Broken();
        promise23BarredBesides();
        promise23Accident();
        promise23AccidentOfOneThatStands();
        promise24Clear();
        promise24HoldsNothingThen();
        promise24ClearsOneBlock();
        Check.end();
    }
}
