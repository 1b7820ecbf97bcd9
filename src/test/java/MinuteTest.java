/** Promise 22, a minute; and the rules of promises 38 and 39 that minutes show. */
public final class MinuteTest {
    private MinuteTest() {
    }

    private static void promise22Run() {
        Ironbark x = Firm.withTrain(1);
        Check.refused("22 minutes 0", Check.ARGUMENT, () -> x.run(0));
        Check.refused("22 minutes 301", Check.ARGUMENT, () -> x.run(301));
        Check.same("22 none", x.run(300), 0);
        Check.same("22 clock", x.clock(), 300);
        Firm.send(x, 0, 0, 0, 0);
        Check.same("22 three entered", x.run(300), 3);
        Firm.runFor(x, 20000 - 600 - 1);
        Check.same("22 clock", x.clock(), 19999);
        Check.refused("22 above 20000", Check.STATE, () -> x.run(2));
        Check.refused("22 range first", Check.ARGUMENT, () -> x.run(301));
        Check.same("22 the last", x.run(1), 0);
        Check.refused("22 at the end", Check.STATE, () -> x.run(1));
        Check.same("22 clock", x.clock(), 20000);
    }

    private static void promise22EntersAtOnce() {
        Ironbark x = new Ironbark();
        x.lay(0, 1, 2, 0);
        x.lay(1, 2, 2, 0);
        x.lay(2, 3, 2, 0);
        Firm.addTrain(x, 0, 9);
        Firm.addCars(x, 0, 8);
        Firm.send(x, 0, 0, 1, 2);
        Check.same("22 enters", x.run(1), 1);
        Check.same("22 arrives", x.train(0, 6), 3);
        Check.same("22 enters the next as it arrives", x.run(2), 1);
        Check.same("22 and the next", x.run(2), 1);
        Check.same("22 holds three", x.holder(0) + x.holder(1) + x.holder(2), 0);
        Check.same("22 by trains too", x.holderByTrains(0) + x.holderByTrains(1) + x.holderByTrains(2), 0);
        x.run(1);
        Check.same("22 clear of the first: 3 minutes behind its arrival", x.holder(0), -1);
        x.run(1);
        Check.same("22 of the second not", x.holder(1), 0);
        x.run(1);
        Check.same("22 of the second", x.holder(1), -1);
        Check.same("22 there", x.train(0, 1) * 10 + x.train(0, 0), 30);
    }

    private static void promise22Ranks() {
        Ironbark x = new Ironbark();
        x.lay(0, 1, 10, 0);
        x.tracks(0, 3);
        for (int i = 0; i < 3; i++) {
            Firm.addTrain(x, 0, 9);
        }
        int[] ranks = {3, 4, 4};
        for (int i = 0; i < 3; i++) {
            x.leg(0);
            x.plan(i, 0, ranks[i]);
        }
        Check.same("22 one", x.run(1), 1);
        Check.same("22 of the higher rank, of the lower number", x.holder(0), 1);
        x.run(11);
        Check.same("22 then the next of that rank", x.holder(0), 2);
        x.run(11);
        Check.same("22 no track for the last", x.barred(0), 10);
        x.tracks(1, 3);
        x.run(1);
        Check.same("22 then the last", x.holder(0), 0);
    }

    private static void promise22SixAtOnce() {
        Ironbark x = new Ironbark();
        x.tracks(0, 4);
        x.tracks(1, 4);
        for (int i = 0; i < 6; i++) {
            x.lay(i / 3, i / 3 + 1, 9, 0);
        }
        x.tracks(2, 4);
        for (int i = 0; i < 6; i++) {
            Firm.addTrain(x, i / 3, 9);
            x.leg(i);
            x.plan(i, 0, i);
        }
        Check.same("22 each of six", x.run(1), 6);
        for (int i = 0; i < 6; i++) {
            Check.same("22 each its block", x.holder(i), i);
        }
    }

    private static void promise22TheOtherLeavesFirst() {
        Ironbark x = new Ironbark();
        x.lay(0, 1, 10, 0);
        x.lay(0, 1, 10, 0);
        Firm.addTrain(x, 0, 9);
        Firm.addTrain(x, 0, 9);
        x.await(1, 0, 0);
        x.leg(0);
        x.plan(0, 0, 5);
        x.leg(1);
        x.plan(1, 0, 5);
        Check.same("22 it has left, so none stands", x.run(1), 1);
        Check.same("22 waits", x.barred(1), 2);
        x.leg(0);
        x.run(10);
        x.plan(0, 0, 0);
        x.run(20);
        Check.same("22 gone on", x.train(1, 1), 1);
    }

    private static void promise22Wear() {
        Ironbark x = Firm.withTrain(9);
        Firm.addCars(x, 0, 10);
        Firm.send(x, 0, 0, 0, 0, 0, 0, 0);
        x.run(6);
        Check.same("22 no wear yet", x.block(0, 0), 0);
        x.run(1);
        Check.same("22 wear by 11", x.block(0, 0), 11);
        Firm.runFor(x, 200);
        Check.same("22 wear", x.block(0, 0), 66);
        int clock = x.clock();
        Firm.send(x, 0, 0);
        x.run(1);
        Check.same("22 slow order: 5, 5 * 20 / 90, 5 more", x.train(0, 6), clock + 1 + 11);
        x.run(14);
        x.repair(0);
        x.run(30);
        x.uncouple(0, 0);
        Firm.send(x, 0, 0, 0, 0, 0, 0);
        Firm.runFor(x, 200);
        Check.same("22 wear", x.block(0, 0), 50);
        for (int i = 1; i < 10; i++) {
            x.uncouple(0, i);
        }
        Firm.send(x, 0, 0, 0, 0, 0, 0, 0, 0, 0);
        Firm.runFor(x, 200);
        Firm.send(x, 0, 0);
        Firm.runFor(x, 200);
        Check.same("22 wear of 59", x.block(0, 0), 59);
        clock = x.clock();
        Firm.send(x, 0, 0, 0);
        x.run(1);
        Check.same("22 not yet slow", x.train(0, 6), clock + 1 + 5);
        x.run(6);
        Check.same("22 slow with 60", x.train(0, 6), clock + 7 + 10);
    }

    private static void promise22Clear() {
        int[] behind = {1, 1, 1, 1, 2, 2, 2, 2, 3, 3, 3};
        for (int cars = 0; cars <= 10; cars++) {
            Ironbark x = Firm.withTrain(9);
            Firm.addCars(x, 0, cars);
            Firm.send(x, 0, 0, 0);
            x.run(1);
            x.run(x.train(0, 6) - x.clock());
            if (cars > 0) {
                // The cars with which it arrived count, not those that it has then.
                x.uncouple(0, 0);
            }
            if (behind[cars] > 1) {
                x.run(behind[cars] - 1);
            }
            Check.same("22 not clear, of cars " + cars, x.holder(0) + x.holderByTrains(0), 0);
            Check.same("22 clear, and back again", x.run(1), 1);
            Check.same("22 on its way back", x.train(0, 1), 0);
        }
    }

    private static void promise22Days() {
        Ironbark x = new Ironbark();
        x.borrow(399);
        x.lay(0, 1, 2, 0);
        x.car(0);
        x.car(0);
        x.car(1);
        Firm.addTrain(x, 0, 9);
        x.offer(0, 1);
        x.offer(0, 1);
        x.load(0, 0);
        x.load(1, 1);
        x.couple(0, 0);
        x.couple(0, 1);
        Firm.runFor(x, 1439);
        int cash = x.cash();
        x.run(1);
        Check.same("22 interest, rounded down", x.cash(), cash - 1);
        Firm.send(x, 0, 0);
        x.run(10);
        x.uncouple(0, 0);
        Firm.runFor(x, 1430);
        Check.same("22 for one car that stands at its goal", x.cash(), cash - 1 - 1 + 2);
        x.uncouple(0, 1);
        x.repay(200);
        cash = x.cash();
        Firm.runFor(x, 1440);
        Check.same("22 for two, no interest of 199", x.cash(), cash + 4);
        x.unload(0);
        cash = x.cash();
        Firm.runFor(x, 1440);
        Check.same("22 not for an empty one", x.cash(), cash + 2);
        x.borrow(20000);
        cash = x.cash();
        Firm.runFor(x, 1439);
        Check.same("22 once a day", x.cash(), cash);
        x.run(1);
        Check.same("22 as it begins", x.cash(), cash - 100 + 2);
        Ironbark y = new Ironbark();
        y.borrow(20000);
        Firm.runFor(y, 1440);
        Check.same("22 a 200th", y.cash(), 25000 - 100);
    }

    /** Adds loaded cars: each of them weighs 5. */
    private static void addLoadedCars(Ironbark x, int count) {
        for (int i = 0; i < count; i++) {
            int car = x.car(0);
            x.load(car, x.offer(0, 1));
            x.couple(0, car);
        }
    }

    private static void promise38RunningMinutes() {
        // Power, empty cars, loaded cars, and the minutes in a block of 20.
        int[][] due = {{1, 0, 0, 20}, {1, 1, 0, 24}, {1, 4, 0, 36}, {1, 1, 1, 34}, {9, 10, 0, 24}, {3, 2, 4, 36},
            {7, 7, 1, 25}, {8, 0, 10, 32}};
        for (int[] d : due) {
            Ironbark x = new Ironbark();
            x.lay(0, 1, 20, 0);
            Firm.addTrain(x, 0, d[0]);
            Firm.addCars(x, 0, d[1]);
            addLoadedCars(x, d[2]);
            Check.same("38 weight", x.train(0, 3), 2 * d[1] + 5 * d[2]);
            Firm.send(x, 0, 0);
            x.run(1);
            String what = "38 minutes by " + d[0] + " of " + d[1] + " empty and " + d[2] + " loaded";
            Check.same(what, x.train(0, 6), 1 + d[3]);
        }
    }

    private static void promise38FailedSignal() {
        Ironbark x = new Ironbark();
        x.lay(0, 1, 7, 0);
        Firm.addTrain(x, 0, 1);
        Firm.addCars(x, 0, 4);
        x.fail(0, true);
        x.flag(0);
        Firm.send(x, 0, 0);
        x.run(1);
        Check.same("38 twice 7 and 7 * 8 / 10", x.train(0, 6), 1 + 24);
        Check.same("38 duty", x.duty(0), 24);
        x.fail(0, false);
        Check.same("38 as it entered", x.train(0, 6), 25);
        x.run(24);
        Check.same("38 arrives", x.train(0, 0), Ironbark.STANDING);
    }

    private static void bar(String what, Ironbark x, int due) {
        Check.same("39 " + what, x.barred(0), due);
    }

    private static void promise39Bars() {
        Ironbark x = new Ironbark();
        x.lay(0, 1, 5, 3);
        x.engine(0, 1);
        x.crew(0);
        x.form(0, 0);
        Firm.addTrain(x, 1, 9);
        x.tracks(1, 1);
        Firm.addCars(x, 0, 2);
        x.hours(0, 0, 1440);
        x.fail(0, true);
        x.repair(0);
        x.await(0, 1, 0);
        bar("not ready", x, -1);
        x.leg(0);
        x.plan(0, 1, 0);
        bar("its minute", x, 1);
        Firm.send(x, 0, 0);
        bar("waits", x, 2);
        x.await(0, -1, 0);
        bar("closed", x, 4);
        Firm.runFor(x, 30);
        bar("the signal", x, 5);
        x.flag(0);
        bar("hours", x, 6);
        x.hours(0, 0, 0);
        bar("weight of 4 above 2", x, 7);
        x.uncouple(0, 0);
        bar("block not known", x, 8);
        x.learn(0, 0);
        bar("no track", x, 10);
        x.rest(0);
        bar("at rest", x, 9);
        Firm.runFor(x, 480);
        bar("no track again", x, 10);
        x.dissolve(1);
        bar("nothing", x, 0);
        Check.refused("39 train", Check.INDEX, () -> x.barred(1));
        Check.refused("39 train -1", Check.INDEX, () -> x.barred(-1));
    }

    private static void promise39Held() {
        Ironbark x = Firm.withTrain(9);
        Firm.addTrain(x, 1, 9);
        Firm.send(x, 1, 0);
        x.run(1);
        x.fail(0, true);
        Firm.send(x, 0, 0);
        bar("held by another", x, 3);
        x.leg(0);
        x.plan(0, 9, 0);
        bar("its minute first", x, 1);
        x.run(7);
        bar("clear, its minute has not come", x, 1);
        x.run(1);
        bar("the signal", x, 5);
    }

    private static void promise39MinuteOfTheFirstBlockAlone() {
        Ironbark x = Firm.withTrain(9);
        x.leg(0);
        x.leg(0);
        x.plan(0, 3, 0);
        Check.same("39 begins in its minute", x.run(2), 0);
        Check.same("39 begins in its minute", x.run(1), 1);
        x.run(5);
        bar("by itself", x, 3);
        x.run(1);
        Check.same("39 goes on", x.train(0, 0), Ironbark.RUNNING);
    }

    private static void promise39Weight() {
        int[] most = {8, 6, 4, 2};
        for (int grade = 0; grade < 4; grade++) {
            Ironbark x = new Ironbark();
            x.lay(0, 1, 5, grade);
            Firm.addTrain(x, 0, 1);
            Firm.addCars(x, 0, most[grade] / 2);
            Firm.send(x, 0, 0);
            bar("as much as it can on grade " + grade, x, 0);
            Firm.addCars(x, 0, 1);
            bar("more than it can on grade " + grade, x, 7);
        }
        Ironbark x = new Ironbark();
        x.lay(0, 1, 5, 0);
        Firm.addTrain(x, 0, 1);
        Firm.addCars(x, 0, 2);
        addLoadedCars(x, 1);
        Firm.send(x, 0, 0);
        bar("9 above 8", x, 7);
    }

    private static void promise39Duty() {
        Ironbark x = new Ironbark();
        x.borrow(20000);
        x.lay(0, 1, 60, 0);
        x.lay(1, 0, 59, 0);
        Firm.addTrain(x, 0, 9);
        Firm.send(x, 0, 0, 0, 0, 0, 0, 0, 0, 0);
        Firm.runFor(x, 600);
        Check.same("39 duty", x.duty(0), 480);
        Firm.send(x, 0, 1, 0, 1);
        Firm.runFor(x, 70);
        Check.same("39 the next too", x.train(0, 5), 1);
        Firm.runFor(x, 80);
        Check.same("39 duty", x.duty(0), 599);
        bar("above 600", x, 9);
        x.lay(0, 1, 2, 0);
        Firm.learnAll(x, 0);
        Firm.send(x, 0, 2);
        bar("601", x, 9);
        Firm.send(x, 0, 1);
        x.rest(0);
        Firm.runFor(x, 480);
        Check.same("39 from 0 on", x.duty(0), 59);
        Ironbark y = new Ironbark();
        y.lay(0, 1, 30, 0);
        Firm.addTrain(y, 0, 9);
        for (int i = 0; i < 5; i++) {
            Firm.send(y, 0, 0, 0, 0, 0);
            Firm.runFor(y, 150);
        }
        Check.same("39 600 in all is not above it", y.duty(0), 600);
        Firm.send(y, 0, 0);
        bar("600 and 30", y, 9);
    }

    public static void main(String[] arguments) {
        promise22Run();
        promise22EntersAtOnce();
        promise22Ranks();
        promise22SixAtOnce();
        promise22TheOtherLeavesFirst();
        promise22Wear();
        promise22Clear();
        promise22Days();
        promise38RunningMinutes();
        promise38FailedSignal();
        promise39Bars();
        promise39Held();
        promise39MinuteOfTheFirstBlockAlone();
        promise39Weight();
        promise39Duty();
        Check.end();
    }
}
