/** What "## Terms" says of a minute, of passed signals and of wrecks. */
final class TermsOfSignals {
    private TermsOfSignals() {
    }

    private static void says(String sentence) {
        Sentences.says(Sentences.TERMS, sentence);
    }

    private static void clockGoesOn() {
        says("1. The clock goes on by 1.");
        Ironbark x = Firm.withTrain(9);
        x.leg(0);
        x.plan(0, 1, 0);
        x.run(1);
        Check.same("by 1", x.clock(), 1);
        Check.same("ahead of what is entered", x.train(0, 0), Ironbark.RUNNING);
        says("Blocks of which trains are clear now are free;");
        Firm.addTrain(x, 0, 9);
        Firm.send(x, 1, 0);
        Check.same("none enters", x.run(5), 0);
        Check.same("entered in that minute", x.run(1), 1);
        Check.same("held by that one", x.holder(0), 1);
        says("those whose 30 minutes are over are not closed.");
        Ironbark y = Firm.withTrain(9);
        y.run(3);
        y.repair(0);
        Firm.send(y, 0, 0);
        Check.same("none enters", y.run(29), 0);
        Check.same("entered in that minute", y.run(1), 1);
        Check.same("it is minute 33", y.clock(), 33);
    }

    private static void arrivals() {
        says("2. Trains that arrive now stand at the other end, in order of their numbers;");
        Ironbark x = Firm.withTrain(9);
        x.lay(1, 2, 5, 0);
        Firm.addTrain(x, 1, 9);
        x.await(1, 0, 1);
        Firm.send(x, 0, 0);
        Firm.send(x, 1, 1);
        x.run(5);
        Check.same("runs", x.train(0, 0), Ironbark.RUNNING);
        Check.same("the other one waits", x.barred(1), 2);
        x.run(1);
        Check.same("stands", x.train(0, 0) * 10 + x.train(0, 1), 1);
        Check.same("the other one enters in that minute", x.train(1, 0), Ironbark.RUNNING);
        Ironbark both = new Ironbark();
        both.lay(0, 1, 5, 0);
        both.lay(2, 1, 5, 0);
        Firm.addTrain(both, 0, 9);
        Firm.addTrain(both, 2, 9);
        Firm.send(both, 0, 0);
        Firm.send(both, 1, 1);
        both.run(6);
        Check.same("both", both.train(0, 1) + both.train(1, 1), 2);
        Check.same("both", both.train(0, 0) + both.train(1, 0), 0);
        says("without a block left in their way they have none.");
        Check.same("none is left", x.train(0, 0) + x.train(0, 5), 0);
        Check.same("not ready", x.barred(0), Ironbark.NONE);
        Ironbark y = Firm.withTrain(9);
        Firm.send(y, 0, 0, 0);
        y.run(6);
        Check.same("one is left", y.train(0, 0) * 10 + y.train(0, 5), 11);
    }

    private static void daysBegin() {
        says("3. If a day begins, a 200th of the debt is paid as interest,");
        int[][] due = {{0, 0}, {199, 0}, {200, 1}, {399, 1}, {20000, 100}};
        for (int[] d : due) {
            Ironbark x = new Ironbark();
            if (d[0] > 0) {
                x.borrow(d[0]);
            }
            Firm.runFor(x, 1439);
            Check.same("not yet", x.cash(), 5000 + d[0]);
            x.run(1);
            Check.same("of " + d[0], x.cash(), 5000 + d[0] - d[1]);
            Check.same("the debt stays", x.debt(), d[0]);
        }
        Ironbark most = Firm.full();
        int before = most.cash();
        Firm.runFor(most, 1440);
        Check.same("of 50000", most.cash(), before - 250);
        says("and for each loaded car that stands, not with a train, at the station to which its bill is, the firm gets 2.");
        Ironbark x = withTenAtTheirGoal();
        int cash = x.cash();
        Firm.runFor(x, 1440 - x.clock());
        Check.same("ten with a train", x.cash(), cash);
        for (int uncoupled = 1; uncoupled <= 10; uncoupled++) {
            x.uncouple(0, uncoupled - 1);
            cash = x.cash();
            Firm.runFor(x, 1440);
            Check.same("so many", x.cash(), cash + 2 * uncoupled);
        }
        x.unload(0);
        cash = x.cash();
        Firm.runFor(x, 1440);
        Check.same("one less", x.cash(), cash + 2 * 9);
        Ironbark y = new Ironbark();
        y.car(0);
        y.car(1);
        y.load(0, y.offer(0, 1));
        cash = y.cash();
        Firm.runFor(y, 1440);
        Check.same("loaded elsewhere, or empty there", y.cash(), cash);
        Ironbark z = withLoadedWreck();
        cash = z.cash();
        Firm.runFor(z, 1440);
        Check.same("with a wrecked train", z.cash(), cash);
        z.clear(0);
        Firm.runFor(z, 1440);
        Check.same("come from wrecks to where its bill is", z.cash(), cash - 500 + 2);
    }

    /** A car that is loaded with a bill to station 1, the first end of the block in which it is wrecked. */
    private static Ironbark withLoadedWreck() {
        Ironbark x = new Ironbark();
        x.lay(1, 0, 5, 0);
        Firm.addTrain(x, 0, 9);
        Firm.addTrain(x, 0, 9);
        x.car(0);
        x.load(0, x.offer(0, 1));
        x.couple(0, 0);
        Firm.send(x, 0, 0);
        x.run(1);
        Firm.send(x, 1, 0);
        x.passSignal(1);
        return x;
    }

    private static Ironbark withTenAtTheirGoal() {
        Ironbark x = Firm.withTrain(9);
        for (int i = 0; i < 10; i++) {
            x.car(0);
            x.load(i, x.offer(0, 1));
            x.couple(0, i);
        }
        Firm.send(x, 0, 0);
        x.run(12);
        Check.same("it is there", x.train(0, 0) * 10 + x.train(0, 1), 1);
        return x;
    }

    /** Trains of these ranks at one station, from where one block goes; tells which one enters first. */
    private static int firstOf(int... ranks) {
        Ironbark x = new Ironbark();
        x.lay(0, 1, 2, 0);
        x.tracks(0, 4);
        for (int rank : ranks) {
            x.leg(0);
            x.plan(Firm.addTrain(x, 0, 1), 0, rank);
        }
        Check.same("one enters", x.run(1), 1);
        return x.holder(0);
    }

    /** Train 1 goes from the only track of station 1, train 0 to there. */
    private static Ironbark withOneTrack(int rankOfFirst, int rankOfSecond) {
        Ironbark x = new Ironbark();
        x.lay(0, 1, 5, 0);
        x.lay(1, 2, 5, 0);
        x.tracks(1, 1);
        Firm.addTrain(x, 0, 9);
        Firm.addTrain(x, 1, 9);
        x.leg(0);
        x.plan(0, 0, rankOfFirst);
        x.leg(1);
        x.plan(1, 0, rankOfSecond);
        return x;
    }

    private static void ranks() {
        says("4. Trains that are ready enter blocks, one by one: those with higher ranks first, of the same rank by numbers.");
        Check.same("the highest", firstOf(0, 9), 1);
        Check.same("the highest", firstOf(9, 8), 0);
        Check.same("the highest", firstOf(3, 4, 5, 4), 2);
        Check.same("by numbers", firstOf(0, 0, 0, 0), 0);
        Check.same("by numbers", firstOf(9, 9), 0);
        Check.same("by numbers", firstOf(1, 7, 7, 2), 1);
        Check.same("the track is free for the next one", withOneTrack(0, 1).run(1), 2);
        Check.same("but not for the one ahead", withOneTrack(1, 0).run(1), 1);
        Check.same("nor for the lower number", withOneTrack(0, 0).run(1), 1);
        Ironbark x = withOneTrack(1, 0);
        x.run(1);
        Check.same("it is still there", x.train(0, 0), Ironbark.READY);
        Check.same("until the next minute", x.run(1), 1);
        Ironbark six = new Ironbark();
        six.tracks(7, 4);
        for (int i = 0; i < 6; i++) {
            six.lay(i, i < 3 ? 6 : 7, 9, 0);
            six.tracks(6, 4);
            Firm.addTrain(six, i, 9);
            six.leg(i);
            six.plan(i, 0, i % 2);
        }
        Check.same("all six", six.run(1), 6);
    }

    private static void whoCanPass() {
        says("A train that is ready can pass the signal of its next block, though it is barred by 3, 4 or 5, and by nothing"
            + " ahead of these, and not by 6 to 10 besides.");
        for (int set = 0; set < 1 << 10; set++) {
            boolean isOfThese = (set & 0b11100) != 0 && (set & 0b1111100011) == 0;
            Ironbark x = Barred.by(set);
            if (isOfThese) {
                // Bar 3 is an accident.
                Check.same(Barred.text(set), x.passSignal(0), (set & 0b100) == 0);
                Check.same(Barred.text(set), x.broken(), 1 + Integer.numberOfTrailingZeros(set));
            } else {
                int broken = x.broken();
                int cash = x.cash();
                Check.refused(Barred.text(set), Check.STATE, () -> x.passSignal(0));
                Check.same(Barred.text(set), x.broken() == broken && x.cash() == cash, true);
            }
        }
        says("That costs 50.");
        for (int set : new int[] {0b100, 0b1000, 0b10000}) {
            Ironbark x = Barred.by(set);
            int cash = x.cash();
            x.passSignal(0);
            Check.same(Barred.text(set), x.cash(), cash - 50);
        }
    }

    /** Blocks 0 and 1 from station 0 over 1 to 2, of 5 minutes; train 0 with 8 cars has entered block 0, train 1 is behind. */
    private static Ironbark withTrainAhead(int minutes) {
        Ironbark x = Firm.withTrain(9);
        x.lay(1, 2, 5, 0);
        Firm.learnAll(x, 0);
        Firm.addTrain(x, 0, 9);
        Firm.addCars(x, 0, 8);
        Firm.send(x, 0, 0, 1);
        x.run(1 + minutes);
        Firm.send(x, 1, 0);
        return x;
    }

    private static void wrecked(String what, Ironbark x, int first, int second, int block) {
        for (int train : new int[] {first, second}) {
            int[] due = {Ironbark.WRECKED, Ironbark.NONE, block};
            for (int i = 0; i < due.length; i++) {
                Check.same(what + ", train " + train + ", " + i, x.train(train, i), due[i]);
            }
            Check.same(what + ", left", x.train(train, 5), 0);
            Check.same(what + ", arrives", x.train(train, 6), Ironbark.NONE);
        }
    }

    private static void accidents() {
        says("If the block is held, this is an accident: both trains are wrecked in it, the one that held it whether it runs,"
            + " there or farther on, or stands and is not clear;");
        Ironbark there = withTrainAhead(1);
        Check.same("accident", there.passSignal(1), false);
        wrecked("runs there", there, 0, 1, 0);
        Ironbark farther = withTrainAhead(6);
        Check.same("it runs farther on", farther.train(0, 2), 1);
        Check.same("accident", farther.passSignal(1), false);
        wrecked("runs farther on", farther, 0, 1, 0);
        Ironbark stands = standingNotClear();
        Check.same("accident", stands.passSignal(1), false);
        wrecked("stands", stands, 0, 1, 0);
        Ironbark ready = standingNotClear();
        Firm.send(ready, 0, 0);
        Check.same("accident", ready.passSignal(1), false);
        wrecked("is ready", ready, 0, 1, 0);
        says("all blocks that they held are free then, but this one is closed until it is cleared (a flag stays).");
        Check.same("free", farther.holder(0) + farther.holder(1), -2);
        Check.same("free, by trains", farther.holderByTrains(0) + farther.holderByTrains(1), -2);
        Check.same("this one is closed", farther.block(0, 1) * 10 + farther.block(1, 1), 10);
        Firm.runFor(farther, 2000);
        Check.same("for long", farther.block(0, 1), 1);
        farther.clear(0);
        Check.same("until it is cleared", farther.block(0, 1), 0);
        blocksBehindAreFree();
        aFlagStays();
    }

    /** Train 0 came over block 0 with four cars, and is not clear; train 1 is ready to follow. */
    private static Ironbark standingNotClear() {
        Ironbark x = Firm.withTrain(9);
        Firm.addTrain(x, 0, 9);
        Firm.addCars(x, 0, 4);
        Firm.send(x, 0, 0);
        x.run(7);
        Firm.send(x, 1, 0);
        return x;
    }

    /** The one that passes has run over block 1, of which it is not clear, and passes into block 0. */
    private static void blocksBehindAreFree() {
        Ironbark x = Firm.withTrain(9);
        x.lay(2, 0, 2, 0);
        x.tracks(0, 4);
        Firm.addTrain(x, 2, 9);
        Firm.addCars(x, 1, 8);
        x.fail(0, true);
        Firm.send(x, 1, 1, 0);
        x.run(3);
        Firm.send(x, 0, 0);
        Check.same("not clear", x.holder(1), 1);
        Check.same("enters ahead of it", x.passSignal(0), true);
        Check.same("accident", x.broken() == 5 && !x.passSignal(1), true);
        Check.same("free", x.holder(0) + x.holder(1) + x.holderByTrains(0) + x.holderByTrains(1), -4);
        wrecked("both", x, 0, 1, 0);
        Check.same("the one behind is not closed", x.block(1, 1), 0);
        Ironbark y = withTrainAhead(1);
        y.lay(5, 6, 20, 0);
        Firm.addTrain(y, 5, 9);
        Firm.send(y, 2, 2);
        y.run(1);
        y.passSignal(1);
        Check.same("that of a third train is held", y.holder(2) * 10 + y.holderByTrains(2), 22);
        Check.same("and open", y.block(2, 1), 0);
    }

    private static void aFlagStays() {
        Ironbark x = withTrainAhead(1);
        x.fail(0, true);
        x.flag(0);
        x.passSignal(1);
        Check.same("a flag stays", x.block(0, 2), 1);
        x.clear(0);
        Check.same("a flag stays as it is cleared", x.block(0, 2), 1);
        says("Otherwise the train enters it (a flag is gone then).");
        Ironbark y = Firm.withTrain(9);
        y.repair(0);
        y.fail(0, true);
        y.flag(0);
        Firm.send(y, 0, 0, 0);
        Check.same("closed", y.passSignal(0), true);
        Check.same("the flag is gone", y.block(0, 2), 0);
        int[] due = {Ironbark.RUNNING, 1, 0, 0, 0, 1, 10};
        for (int i = 0; i < due.length; i++) {
            Check.same("told " + i, y.train(0, i), due[i]);
        }
        Check.same("it holds the block", y.holder(0) + y.holderByTrains(0), 0);
        Check.same("duty", y.duty(0), 10);
        Check.same("no track is taken", y.freeTracks(0) * 10 + y.freeTracks(1), 21);
        says("In an accident no minutes are added to a duty.");
        Ironbark z = withTrainAhead(1);
        int before = z.duty(0);
        z.passSignal(1);
        Check.same("of either", z.duty(0) == before && z.duty(1) == 0, true);
    }

    private static void whatCanNotBeEntered() {
        says("A block with wrecks in it, or one of which the train itself is not clear, cannot be entered so.");
        Ironbark x = Firm.withWrecks(0, 0);
        Firm.addTrain(x, 0, 9);
        Firm.send(x, 2, 0);
        Check.same("it is closed", x.barred(2), 4);
        Check.refused("wrecks", Check.STATE, () -> x.passSignal(2));
        x.clear(0);
        x.repair(0);
        Check.same("closed, without wrecks", x.passSignal(2), true);
        Ironbark y = Firm.withTrain(9);
        Firm.send(y, 0, 0, 0);
        y.run(6);
        Check.refused("itself", Check.STATE, () -> y.passSignal(0));
        Firm.addTrain(y, 1, 9);
        Firm.send(y, 1, 0);
        Check.same("another one", y.passSignal(1), false);
        says("What was broken last is kept: 3, 4 or 5.");
        int[] sets = {0b100, 0b1000, 0b10000, 0b11000, 0b11100};
        int[] due = {3, 4, 5, 4, 3};
        for (int i = 0; i < sets.length; i++) {
            Ironbark z = Barred.by(sets[i]);
            z.passSignal(0);
            Check.same(Barred.text(sets[i]), z.broken(), due[i]);
            z.run(100);
            Check.same("kept", z.broken(), due[i]);
        }
    }

    private static void clearing() {
        says("To clear a block of wrecks costs 500:");
        Ironbark x = Firm.withWrecks(2, 3);
        int cash = x.cash();
        x.clear(0);
        Check.same("cost", x.cash(), cash - 500);
        says("these trains are no more, their engines, crews and cars come to its first end, cars by trains and as they were"
            + " coupled;");
        Check.refused("train 0", Check.INDEX, () -> x.train(0, 0));
        Check.refused("train 1", Check.INDEX, () -> x.train(1, 0));
        int[] yard = {0, 1, 2, 3, 4, Ironbark.NONE};
        for (int i = 0; i < yard.length; i++) {
            Check.same("yard " + i, x.yardAt(0, i), yard[i]);
        }
        Check.same("engines and crews", x.form(0, 1) + x.form(1, 0), 1);
        Check.same("at the first end", x.train(0, 1) + x.train(1, 1), 0);
        Check.same("without cars", x.train(0, 4) + x.train(1, 4), 0);
        Ironbark y = coupledCrosswise();
        y.clear(0);
        int[] crosswise = {5, 4, 2, 3, 1, 0};
        for (int i = 0; i < crosswise.length; i++) {
            Check.same("behind what stands there " + i, y.yardAt(0, i), crosswise[i]);
        }
        oneOfTwoIsCleared();
        says("and the block is not closed any more.");
        Check.same("it is open", x.block(0, 1), 0);
        Ironbark z = Firm.withTrain(9);
        Firm.addTrain(z, 0, 9);
        z.repair(0);
        Firm.send(z, 0, 0);
        z.passSignal(0);
        Firm.send(z, 1, 0);
        z.passSignal(1);
        z.clear(0);
        Check.same("nor by the repair from ahead", z.block(0, 1), 0);
    }

    private static void oneOfTwoIsCleared() {
        Ironbark x = Firm.withWrecks(1, 1);
        x.lay(3, 2, 5, 0);
        Firm.addTrain(x, 2, 9);
        Firm.addTrain(x, 3, 9);
        Firm.send(x, 2, 1);
        x.run(1);
        Firm.send(x, 3, 1);
        x.passSignal(3);
        Check.same("two trains are no more", x.clear(1), 2);
        wrecked("the others are", x, 0, 1, 0);
        Check.same("their block is closed", x.block(0, 1) * 10 + x.block(1, 1), 10);
        Check.same("their cars are with them", x.carAt(0) * 1000 + x.carAt(1), 100101);
        x.clear(0);
        Check.same("then they are no more either", x.form(0, 0), 0);
        Check.same("of both blocks", x.form(2, 3), 1);
        Check.same("at their first ends", x.train(0, 1) * 10 + x.train(1, 1), 3);
    }

    /** Train 0 has cars 2 and 3, train 1 has 1 and 0, coupled so; 5 and 4 stand at the first end. */
    private static Ironbark coupledCrosswise() {
        Ironbark x = Firm.withTrain(9);
        Firm.addTrain(x, 0, 9);
        for (int i = 0; i < 6; i++) {
            x.car(0);
        }
        for (int car : new int[] {1, 0}) {
            x.couple(1, car);
        }
        for (int car : new int[] {4, 2, 3}) {
            x.couple(0, car);
        }
        x.uncouple(0, 4);
        Firm.send(x, 1, 0);
        x.run(1);
        Firm.send(x, 0, 0);
        x.passSignal(0);
        return x;
    }

    static void tests() {
        clockGoesOn();
        arrivals();
        daysBegin();
        ranks();
        whoCanPass();
        accidents();
        whatCanNotBeEntered();
        clearing();
    }
}
