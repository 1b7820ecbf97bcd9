/** Promises 1 to 14: a new object, and what is built. */
public final class BuildingTest {
    private BuildingTest() {
    }

    private static void promise1ANewObject() {
        Ironbark x = new Ironbark();
        Check.same("1 clock", x.clock(), 0);
        Check.same("1 cash", x.cash(), 5000);
        Check.same("1 debt", x.debt(), 0);
        Check.same("1 broken", x.broken(), 0);
        for (int s = 0; s < 8; s++) {
            Check.same("1 free tracks of " + s, x.freeTracks(s), 2);
            Check.same("1 yard of " + s, x.yardAt(s, 0), -1);
        }
        Check.refused("1 block", Check.INDEX, () -> x.block(0, 0));
        Check.refused("1 train", Check.INDEX, () -> x.train(0, 0));
        Check.refused("1 crew", Check.INDEX, () -> x.duty(0));
        Check.refused("1 car", Check.INDEX, () -> x.carAt(0));
        x.car(0);
        Check.refusedDeed("1 bill", Check.INDEX, () -> x.load(0, 0));
        x.crew(0);
        Check.refused("1 engine", Check.INDEX, () -> x.form(0, 0));
        Check.same("1 objects do not share", new Ironbark().cash(), 5000);
    }

    private static void promise2Tracks() {
        Ironbark x = new Ironbark();
        Check.same("2 before", x.tracks(7, 4), 2);
        Check.same("2 again", x.tracks(7, 1), 4);
        Check.same("2 free", x.freeTracks(7), 1);
        Check.same("2 others", x.freeTracks(6), 2);
        Check.refused("2 station 8", Check.INDEX, () -> x.tracks(8, 0));
        Check.refused("2 station -1", Check.INDEX, () -> x.tracks(-1, 2));
        Check.refused("2 none", Check.ARGUMENT, () -> x.tracks(0, 0));
        Check.refused("2 five", Check.ARGUMENT, () -> x.tracks(0, 5));
        Ironbark y = Firm.withTrain(5);
        Firm.addTrain(y, 0, 5);
        Check.refused("2 two are taken", Check.STATE, () -> y.tracks(0, 1));
        Check.refused("2 range first", Check.ARGUMENT, () -> y.tracks(0, 0));
        Check.same("2 as many as are taken", y.tracks(0, 2), 2);
        Firm.send(y, 0, 0);
        y.run(1);
        Check.same("2 the train has left", y.tracks(0, 1), 2);
        Firm.send(y, 1, 0);
        y.run(12);
        Check.refused("2 both have come", Check.STATE, () -> y.tracks(1, 1));
    }

    private static void promise3Lay() {
        Ironbark x = new Ironbark();
        Check.same("3 first", x.lay(0, 7, 60, 3), 0);
        Check.same("3 cost", x.cash(), -1000);
        Check.same("3 second, the same ends", x.lay(7, 0, 2, 0), 1);
        Check.same("3 cost", x.cash(), -1200);
        Check.same("3 wear", x.block(1, 0), 0);
        Check.same("3 open", x.block(1, 1), 0);
        Check.refused("3 first end", Check.INDEX, () -> x.lay(-1, 1, 1, 0));
        Check.refused("3 second end", Check.INDEX, () -> x.lay(8, 8, 1, 9));
        Check.refused("3 the second alone", Check.INDEX, () -> x.lay(0, 8, 2, 0));
        Check.refused("3 the second alone", Check.INDEX, () -> x.lay(0, -1, 2, 0));
        Check.refused("3 the same", Check.ARGUMENT, () -> x.lay(1, 1, 5, 0));
        Check.refused("3 minutes 1", Check.ARGUMENT, () -> x.lay(0, 1, 1, 0));
        Check.refused("3 minutes 61", Check.ARGUMENT, () -> x.lay(0, 1, 61, 0));
        Check.refused("3 grade -1", Check.ARGUMENT, () -> x.lay(0, 1, 5, -1));
        Check.refused("3 grade 4", Check.ARGUMENT, () -> x.lay(0, 1, 5, 4));
        for (int i = 2; i < 16; i++) {
            Check.same("3 number", x.lay(i % 8, (i + 1) % 8, 2, 0), i);
        }
        int cash = x.cash();
        Check.refused("3 there are 16", Check.STATE, () -> x.lay(0, 1, 2, 0));
        Check.refused("3 range first", Check.ARGUMENT, () -> x.lay(0, 0, 2, 0));
        Check.same("3 no cost", x.cash(), cash);
        Check.same("3 the last", x.holder(15), -1);
    }

    private static void promise4Fail() {
        Ironbark x = Firm.withTrain(1);
        Check.same("4 had not", x.fail(0, true), false);
        Check.same("4 had", x.fail(0, true), true);
        x.flag(0);
        Check.same("4 fails again", x.fail(0, true), true);
        Check.same("4 a flag is gone", x.block(0, 2), 0);
        x.flag(0);
        Check.same("4 mended", x.fail(0, false), true);
        Check.same("4 a flag is gone", x.block(0, 2), 0);
        Check.same("4 mended again", x.fail(0, false), false);
        Firm.send(x, 0, 0);
        Check.same("4 does not bar", x.barred(0), 0);
        Check.refused("4 no block", Check.INDEX, () -> x.fail(1, true));
        Check.refused("4 no block", Check.INDEX, () -> x.fail(-1, false));
    }

    private static void promise5Flag() {
        Ironbark x = Firm.withTrain(1);
        Check.refusedDeed("5 has not failed", Check.STATE, () -> x.flag(0));
        x.fail(0, true);
        Check.same("5 not yet", x.block(0, 2), 0);
        x.flag(0);
        Check.same("5 flagged", x.block(0, 2), 1);
        Check.refusedDeed("5 is flagged", Check.STATE, () -> x.flag(0));
        Check.refusedDeed("5 no block", Check.INDEX, () -> x.flag(1));
        Firm.send(x, 0, 0);
        Check.same("5 not barred", x.barred(0), 0);
        x.run(1);
        Check.same("5 for one train", x.block(0, 2), 0);
        x.flag(0);
        Check.same("5 flagged again", x.block(0, 2), 1);
    }

    private static void promise6Hours() {
        Ironbark x = Firm.withTrain(1);
        Firm.send(x, 0, 0);
        x.hours(0, 5, 6);
        Check.same("6 minutes 0 to 5", x.barred(0), 6);
        x.hours(0, 6, 1440);
        Check.same("6 clear in minute 6", x.barred(0), 0);
        x.hours(0, 0, 1);
        Check.same("6 the minute now", x.barred(0), 6);
        x.hours(0, 0, 0);
        Check.same("6 none", x.barred(0), 0);
        x.hours(0, 3, 3);
        Check.same("6 none, of 3", x.barred(0), 0);
        x.hours(0, 1440, 1440);
        Check.same("6 none, of 1440", x.barred(0), 0);
        x.hours(0, 3, 4);
        x.run(3);
        Check.same("6 in the last of them", x.barred(0), 6);
        Check.same("6 enters behind them", x.run(1), 1);
        Check.refusedDeed("6 no block", Check.INDEX, () -> x.hours(1, -1, 0));
        Check.refusedDeed("6 from -1", Check.ARGUMENT, () -> x.hours(0, -1, 5));
        Check.refusedDeed("6 to 1441", Check.ARGUMENT, () -> x.hours(0, 5, 1441));
        Check.refusedDeed("6 from 1441", Check.ARGUMENT, () -> x.hours(0, 1441, 1441));
        Check.refusedDeed("6 to ahead of from", Check.ARGUMENT, () -> x.hours(0, 5, 4));
    }

    private static void promise6HoursOverMidnight() {
        Ironbark x = Firm.withTrain(1);
        Firm.runFor(x, 1436);
        Firm.send(x, 0, 0);
        x.hours(0, 1, 2);
        Check.same("6 the next day", x.barred(0), 6);
        x.hours(0, 2, 1436);
        Check.same("6 clear as they begin", x.barred(0), 0);
        x.hours(0, 1439, 1440);
        Check.same("6 the end of this day", x.barred(0), 6);
        x.hours(0, 0, 1);
        Firm.runFor(x, 1440);
        Check.same("6 on each day, not on the first alone", x.train(0, 1), 1);
    }

    private static void promise7Repair() {
        Ironbark x = Firm.withTrain(9);
        Firm.addCars(x, 0, 3);
        Firm.send(x, 0, 0);
        x.run(1);
        Check.refused("7 held", Check.STATE, () -> x.repair(0));
        x.run(5);
        Check.same("7 wear", x.block(0, 0), 4);
        Check.refused("7 held until clear", Check.STATE, () -> x.repair(0));
        x.run(1);
        int cash = x.cash();
        Check.same("7 cost", x.repair(0), 20);
        Check.same("7 paid", x.cash(), cash - 20);
        Check.same("7 wear is 0", x.block(0, 0), 0);
        Check.same("7 closed", x.block(0, 1), 1);
        Check.refused("7 closed", Check.STATE, () -> x.repair(0));
        x.run(29);
        Check.same("7 closed for 30", x.block(0, 1), 1);
        x.run(1);
        Check.same("7 open", x.block(0, 1), 0);
        Check.same("7 costs nothing", x.repair(0), 0);
        Check.refused("7 no block", Check.INDEX, () -> x.repair(1));
        Ironbark wrecks = Firm.withWrecks(0, 0);
        Check.refused("7 closed by wrecks", Check.STATE, () -> wrecks.repair(0));
    }

    private static void promise8Engine() {
        Ironbark x = new Ironbark();
        Check.same("8 first", x.engine(7, 9), 0);
        Check.same("8 cost", x.cash(), 4100);
        Check.refused("8 station", Check.INDEX, () -> x.engine(8, 0));
        Check.refused("8 power 0", Check.ARGUMENT, () -> x.engine(0, 0));
        Check.refused("8 power 10", Check.ARGUMENT, () -> x.engine(0, 10));
        for (int i = 1; i < 6; i++) {
            Check.same("8 number", x.engine(0, 1), i);
        }
        Check.same("8 cost", x.cash(), 3600);
        Check.same("8 takes no track", x.freeTracks(0), 2);
        Check.refused("8 there are 6", Check.STATE, () -> x.engine(0, 1));
        Check.refused("8 range first", Check.ARGUMENT, () -> x.engine(0, 10));
        Check.same("8 no cost", x.cash(), 3600);
        x.crew(7);
        Check.same("8 at its station", x.form(0, 0), 0);
    }

    private static void promise9Crew() {
        Ironbark x = new Ironbark();
        Check.refused("9 station", Check.INDEX, () -> x.crew(8));
        for (int i = 0; i < 6; i++) {
            Check.same("9 number", x.crew(i), i);
            Check.same("9 duty", x.duty(i), 0);
        }
        Check.refused("9 there are 6", Check.STATE, () -> x.crew(0));
        Check.refused("9 station first", Check.INDEX, () -> x.crew(-1));
        Check.same("9 costs nothing", x.cash(), 5000);
        x.engine(5, 1);
        Check.refused("9 elsewhere", Check.STATE, () -> x.form(0, 4));
        Check.same("9 at its station", x.form(0, 5), 0);
    }

    private static void promise10Learn() {
        Ironbark x = new Ironbark();
        x.lay(0, 1, 2, 0);
        x.lay(1, 2, 2, 0);
        x.crew(0);
        x.crew(0);
        Check.same("10 one", x.learn(0, 1), 1);
        Check.same("10 the same", x.learn(0, 1), 1);
        Check.same("10 two", x.learn(0, 0), 2);
        Check.same("10 each crew for itself", x.learn(1, 0), 1);
        Check.refused("10 crew", Check.INDEX, () -> x.learn(2, 0));
        Check.refused("10 block", Check.INDEX, () -> x.learn(0, 2));
        Check.refused("10 block -1", Check.INDEX, () -> x.learn(0, -1));
        x.engine(0, 1);
        x.form(0, 1);
        Firm.send(x, 0, 0, 1);
        x.run(4);
        Check.same("10 the second is not known", x.barred(0), 8);
        x.learn(1, 1);
        Check.same("10 known", x.barred(0), 0);
    }

    private static void promise11Rest() {
        Ironbark x = Firm.withTrain(1);
        Firm.send(x, 0, 0, 0);
        x.run(1);
        Check.refused("11 runs", Check.STATE, () -> x.rest(0));
        x.run(5);
        Check.same("11 duty", x.duty(0), 5);
        Check.same("11 stands, ready", x.rest(0), 486);
        Check.same("11 at rest", x.duty(0), -1);
        Check.refused("11 at rest", Check.STATE, () -> x.rest(0));
        Check.same("11 bars", x.run(300), 0);
        x.run(179);
        Check.same("11 still", x.duty(0), -1);
        Check.same("11 is over, the train enters", x.run(1), 1);
        Check.same("11 duty from 0 on", x.duty(0), 5);
        Check.refused("11 crew", Check.INDEX, () -> x.rest(1));
        Ironbark y = new Ironbark();
        y.crew(3);
        Check.same("11 without a train", y.rest(0), 480);
        Firm.runFor(y, 480);
        Check.same("11 again", y.rest(0), 960);
        Ironbark wrecks = Firm.withWrecks(0, 0);
        Check.refused("11 wrecked", Check.STATE, () -> wrecks.rest(0));
        wrecks.clear(0);
        Check.same("11 cleared", wrecks.rest(0), 481);
    }

    private static void promise12Car() {
        Ironbark x = new Ironbark();
        Check.same("12 first", x.car(7), 0);
        Check.same("12 cost", x.cash(), 4950);
        Check.same("12 at home", x.carAt(0), 7);
        Check.same("12 first paper", x.paper(0, 0), 7);
        Check.same("12 empty", x.billOf(0), -1);
        Check.refused("12 station", Check.INDEX, () -> x.car(8));
        for (int i = 1; i < 20; i++) {
            Check.same("12 number", x.car(3), i);
        }
        Check.same("12 the yard", x.yardAt(3, 18), 19);
        Check.refused("12 there are 20", Check.STATE, () -> x.car(0));
        Check.refused("12 station first", Check.INDEX, () -> x.car(-1));
        Check.same("12 cost", x.cash(), 4000);
    }

    private static void promise13Borrow() {
        Ironbark x = new Ironbark();
        Check.same("13 least", x.borrow(1), 1);
        Check.same("13 most", x.borrow(20000), 20001);
        Check.same("13 cash", x.cash(), 25001);
        Check.refused("13 0", Check.ARGUMENT, () -> x.borrow(0));
        Check.refused("13 20001", Check.ARGUMENT, () -> x.borrow(20001));
        x.borrow(20000);
        Check.refused("13 above 50000", Check.STATE, () -> x.borrow(10000));
        Check.refused("13 range first", Check.ARGUMENT, () -> x.borrow(Integer.MAX_VALUE));
        Check.same("13 50000", x.borrow(9999), 50000);
        Check.same("13 asked", x.debt(), 50000);
        Check.refused("13 one more", Check.STATE, () -> x.borrow(1));
    }

    private static void promise14Repay() {
        Ironbark x = new Ironbark();
        x.borrow(1000);
        Check.same("14 some", x.repay(400), 600);
        Check.same("14 cash", x.cash(), 5600);
        Check.refused("14 above the debt", Check.STATE, () -> x.repay(601));
        Check.refused("14 0", Check.ARGUMENT, () -> x.repay(0));
        Check.refused("14 50001", Check.ARGUMENT, () -> x.repay(50001));
        Check.refused("14 50000", Check.STATE, () -> x.repay(50000));
        x.lay(0, 1, 51, 0);
        Check.refused("14 above the cash", Check.STATE, () -> x.repay(501));
        Check.same("14 all cash", x.repay(500), 100);
        Check.same("14 no cash", x.cash(), 0);
        Check.refused("14 no cash left", Check.STATE, () -> x.repay(1));
        Ironbark y = new Ironbark();
        y.borrow(50);
        Check.same("14 all debt", y.repay(50), 0);
        Check.same("14 asked", y.debt(), 0);
        Check.refused("14 no debt left", Check.STATE, () -> y.repay(1));
    }

    public static void main(String[] arguments) {
        promise1ANewObject();
        promise2Tracks();
        promise3Lay();
        promise4Fail();
        promise5Flag();
        promise6Hours();
        promise6HoursOverMidnight();
        promise7Repair();
        promise8Engine();
        promise9Crew();
        promise10Learn();
        promise11Rest();
        promise12Car();
        promise13Borrow();
        promise14Repay();
        Check.end();
    }
}
