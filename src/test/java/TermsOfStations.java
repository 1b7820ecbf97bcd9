/** What "## Terms" says of stations, blocks, engines, crews and cars. */
final class TermsOfStations {
    private TermsOfStations() {
    }

    private static void says(String sentence) {
        Sentences.says(Sentences.TERMS, sentence);
    }

    private static void askingChangesNothing() {
        says("The firm builds, forms, plans and runs; holders, places, wear, papers and accounts are asked, which changes"
            + " nothing.");
        for (int way = 0; way < Shown.WAYS; way++) {
            Edges.Made[] firms = {Ironbark::new, Firm::busy, () -> Firm.withWrecks(2, 1)};
            for (Edges.Made made : firms) {
                Ironbark x = made.firm();
                Shown.by(0, x);
                Check.same("way " + way, Shown.difference(Shown.by(way, x), Shown.by(way, made.firm())), "");
            }
        }
    }

    private static int cashAfterADayWith(int debt) {
        Ironbark x = new Ironbark();
        x.borrow(debt);
        Firm.runFor(x, 1440);
        return x.cash() - debt;
    }

    private static void divisions() {
        says("All divisions are rounded down.");
        int[][] interest = {{199, 0}, {200, 1}, {399, 1}, {400, 2}};
        for (int[] due : interest) {
            Check.same("interest of " + due[0], 5000 - cashAfterADayWith(due[0]), due[1]);
        }
        // 7 * 4 / 10 is 2, 7 * 6 / 20 is 2.
        Check.same("minutes of weight 4", TermsOfTrains.minutesInBlock(7, 1, 2, 0), 7 + 2);
        Check.same("minutes of weight 6", TermsOfTrains.minutesInBlock(7, 2, 3, 0), 7 + 2);
        // 10 * 1 / 10 would be 1, 10 * 4 / 20 is 2, and 5 * 2 / 20 is 0.
        Check.same("no part is lost", TermsOfTrains.minutesInBlock(10, 2, 2, 0), 10 + 2);
        Check.same("less than one", TermsOfTrains.minutesInBlock(5, 2, 1, 0), 5);
    }

    private static void clockAndCash() {
        says("The clock is 0 at first, and at most 20000 minutes; a day has 1440.");
        Ironbark x = new Ironbark();
        Check.same("at first", x.clock(), 0);
        x.borrow(200);
        Firm.runFor(x, 1439);
        Check.same("the last minute of the first day", x.cash(), 5200);
        x.run(1);
        Check.same("a day begins", x.cash(), 5199);
        Firm.runFor(x, 1439);
        Check.same("the last minute of the second day", x.cash(), 5199);
        x.run(1);
        Check.same("the next one begins", x.cash(), 5198);
        Firm.runFor(x, 20000 - 2880);
        Check.same("at most", x.clock(), 20000);
        Check.same("13 days have begun", x.cash(), 5200 - 13);
        Check.refused("no minute more", Check.STATE, () -> x.run(1));
        says("The firm has 5000 in cash at first, which may become less than 0.");
        Check.same("at first", new Ironbark().cash(), 5000);
        Check.same("by blocks, an engine and a car", poor().cash(), -1000 - 900 - 50);
        Ironbark y = poor();
        y.borrow(1000);
        y.lay(0, 1, 10, 0);
        Firm.runFor(y, 1440);
        Check.same("by interest", y.cash(), -1950 - 5);
        Ironbark z = new Ironbark();
        z.lay(0, 1, 50, 0);
        z.engine(0, 1);
        z.crew(0);
        z.form(0, 0);
        z.learn(0, 0);
        z.fail(0, true);
        Firm.send(z, 0, 0);
        z.passSignal(0);
        Check.same("by a passed signal", z.cash(), -100 - 50);
    }

    private static Ironbark poor() {
        Ironbark x = new Ironbark();
        x.lay(0, 1, 60, 0);
        x.engine(0, 9);
        x.car(0);
        return x;
    }

    private static void stationsAndBlocks() {
        says("There are the stations 0 to 7, each with 2 tracks at first.");
        for (int station = 0; station < 8; station++) {
            Check.same("station " + station, new Ironbark().tracks(station, 1), 2);
        }
        Check.refused("no station 8", Check.INDEX, () -> new Ironbark().tracks(8, 1));
        Check.refused("no station -1", Check.INDEX, () -> new Ironbark().tracks(-1, 1));
        says("Blocks are numbered from 0, at most 16;");
        Ironbark x = new Ironbark();
        for (int block = 0; block < 16; block++) {
            Check.same("number", x.lay(0, 1, 2, 0), block);
        }
        Check.refused("a 17th", Check.STATE, () -> x.lay(0, 1, 2, 0));
        says("a block joins two stations, its first and its second end, has minutes, a grade, 0 to 3, and wear, 0 at first; it"
            + " costs 100 for each of its minutes.");
        Check.same("it cost", x.cash(), 5000 - 16 * 200);
        Check.same("wear", x.block(15, 0), 0);
        for (int end = 2; end < 4; end++) {
            Ironbark y = new Ironbark();
            y.lay(3, 2, 4, 3);
            Firm.addTrain(y, end, 9);
            Firm.send(y, 0, 0);
            Check.same("from " + end, y.run(5), 1);
            Check.same("to the other end", y.train(0, 1) * 10 + y.train(0, 0), (5 - end) * 10);
        }
    }

    /** A block of 10 minutes with so much wear, from which a train without cars is clear. */
    private static Ironbark withWear(int wear) {
        Ironbark x = new Ironbark();
        x.lay(0, 1, 10, 0);
        Firm.addTrain(x, 0, 9);
        Firm.addCars(x, 0, 10);
        for (int i = 0; i < wear / 11; i++) {
            Firm.send(x, 0, 0);
            x.run(17);
        }
        for (int car = 0; car < 10; car++) {
            x.uncouple(0, car);
        }
        for (int i = 0; i < wear % 11; i++) {
            Firm.send(x, 0, 0);
            x.run(22);
        }
        Check.same("wear", x.block(0, 0), wear);
        return x;
    }

    private static int minutesOfNextRun(Ironbark x) {
        Firm.send(x, 0, 0);
        x.run(1);
        return x.train(0, 6) - x.clock();
    }

    private static void wearAndRepair() {
        says("With a wear of 60 or more it has a slow order.");
        Check.same("59", minutesOfNextRun(withWear(59)), 10);
        Check.same("60", minutesOfNextRun(withWear(60)), 20);
        Check.same("61", minutesOfNextRun(withWear(61)), 20);
        says("To repair it costs 5 times its wear, which is 0 then, and it is closed for 30 minutes.");
        Ironbark x = withWear(60);
        int cash = x.cash();
        Check.same("cost", x.repair(0), 300);
        Check.same("is paid", x.cash(), cash - 300);
        Check.same("wear", x.block(0, 0), 0);
        x.run(29);
        Check.same("closed in the 30th minute", x.block(0, 1), 1);
        x.run(1);
        Check.same("open", x.block(0, 1), 0);
        Check.same("no slow order", minutesOfNextRun(x), 10);
    }

    private static void signals() {
        says("Its signal can fail, and be mended; one that failed can be flagged, for one train.");
        Ironbark x = Firm.withTrain(9);
        Firm.send(x, 0, 0, 0);
        x.fail(0, true);
        Check.same("fails", x.barred(0), 5);
        x.fail(0, false);
        Check.same("mended", x.barred(0), 0);
        x.fail(0, true);
        x.flag(0);
        Check.same("flagged", x.barred(0), 0);
        x.run(12);
        Check.same("not for the second time", x.barred(0), 5);
        says("It can have hours of others, which are minutes of each day from one up to another, not included.");
        for (int day = 0; day < 3; day++) {
            Ironbark y = Firm.withTrain(9);
            Firm.runFor(y, 1440 * day + 500);
            Firm.send(y, 0, 0);
            y.hours(0, 499, 500);
            Check.same("not the last one, on day " + day, y.barred(0), 0);
            y.hours(0, 500, 501);
            Check.same("the first one, on day " + day, y.barred(0), 6);
            y.hours(0, 505, 506);
            Check.same("the last one of its run, on day " + day, y.barred(0), 6);
            y.hours(0, 506, 1440);
            Check.same("as it would be clear, on day " + day, y.barred(0), 0);
        }
    }

    private static void holdersAndTracks() {
        says("A block is held by the train that enters it, until that is clear of it.");
        Ironbark x = Firm.withTrain(9);
        Firm.send(x, 0, 0);
        Check.same("not yet", x.holder(0), Ironbark.NONE);
        x.run(1);
        Check.same("enters", x.holder(0), 0);
        x.run(5);
        Check.same("arrives", x.holder(0), 0);
        x.run(1);
        Check.same("is clear", x.holder(0), Ironbark.NONE);
        says("A track is taken by each train that stands at the station, and by each that runs to it.");
        Firm.send(x, 0, 0);
        Check.same("stands there, ready", x.freeTracks(1) * 10 + x.freeTracks(0), 12);
        x.run(1);
        Check.same("runs from there", x.freeTracks(1) * 10 + x.freeTracks(0), 21);
        x.run(5);
        Check.same("is there, not clear", x.freeTracks(1) * 10 + x.freeTracks(0), 21);
        Check.same("wrecked", Firm.withWrecks(0, 0).freeTracks(0) + Firm.withWrecks(0, 0).freeTracks(1), 4);
    }

    private static void enginesCrewsAndCars() {
        says("There can be 6 engines, each with a power, 6 crews, 20 cars and 6 trains at once.");
        Ironbark full = Firm.full();
        for (int i = 0; i < 6; i++) {
            Check.same("train " + i, full.train(i, 0), Ironbark.STANDING);
        }
        Check.refused("a 7th engine", Check.STATE, () -> full.engine(7, 1));
        Check.refused("a 7th crew", Check.STATE, () -> full.crew(7));
        Check.refused("a 21st car", Check.STATE, () -> full.car(7));
        Check.refused("a 7th train", Check.INDEX, () -> full.form(6, 6));
        says("Engines, crews and cars are at a station, or with a train.");
        Check.refused("engine and crew are with a train", Check.STATE, () -> full.form(0, 1));
        full.dissolve(0);
        full.dissolve(1);
        Check.same("at a station", full.form(0, 1), 0);
        Check.same("a car", full.carAt(0), 0);
        full.couple(0, 0);
        Check.same("with a train", full.carAt(0), 100);
        Check.same("no longer there", full.yardAt(0, 0), 1);
        says("An engine that is not with a train takes no track.");
        Ironbark x = new Ironbark();
        for (int i = 0; i < 6; i++) {
            x.engine(0, 1);
            x.crew(0);
        }
        Check.same("six engines", x.freeTracks(0), 2);
        x.form(0, 0);
        x.dissolve(0);
        Check.same("six engines, one that was with a train", x.freeTracks(0), 2);
    }

    private static void crews() {
        says("A crew knows blocks.");
        Ironbark x = new Ironbark();
        x.lay(0, 1, 5, 0);
        x.lay(0, 1, 5, 0);
        x.crew(0);
        x.crew(0);
        Check.same("one", x.learn(0, 0), 1);
        Check.same("two", x.learn(0, 1), 2);
        Check.same("each for itself", x.learn(1, 1), 1);
        says("Its duty is the sum of the minutes of all blocks that its trains entered since its last rest ended, each as long"
            + " as it runs there, counted as it enters.");
        x.engine(0, 9);
        x.engine(1, 9);
        x.form(0, 0);
        Firm.send(x, 0, 0);
        Check.same("not yet", x.duty(0), 0);
        x.run(1);
        Check.same("as it enters", x.duty(0), 5);
        x.run(6);
        x.dissolve(0);
        x.form(1, 0);
        x.fail(1, true);
        x.flag(1);
        Firm.send(x, 0, 1);
        x.run(1);
        Check.same("with another train, twice as long", x.duty(0), 5 + 10);
        Check.same("not for another crew", x.duty(1), 0);
        x.run(11);
        says("A rest takes 480 minutes; at its end its duty is 0.");
        x.rest(0);
        Firm.runFor(x, 479);
        Check.same("not yet", x.duty(0), Ironbark.NONE);
        x.run(1);
        Check.same("at its end", x.duty(0), 0);
        Firm.send(x, 0, 0);
        x.run(1);
        Check.same("from then on", x.duty(0), 5);
    }

    static void tests() {
        askingChangesNothing();
        divisions();
        clockAndCash();
        stationsAndBlocks();
        wearAndRepair();
        signals();
        holdersAndTracks();
        enginesCrewsAndCars();
        crews();
    }
}
