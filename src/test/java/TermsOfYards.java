/** What "## Terms" says of bills, papers, yards and the way home, of calls that throw, and of the constants. */
final class TermsOfYards {
    private TermsOfYards() {
    }

    private static void says(String sentence) {
        Sentences.says(Sentences.TERMS, sentence);
    }

    private static void bills() {
        says("Bills are numbered from 0, at most 40: a load from a station to another one, at the rate of the firm between"
            + " these.");
        Ironbark x = new Ironbark();
        for (int bill = 0; bill < 40; bill++) {
            Check.same("number", x.offer(bill % 2, 2), bill);
        }
        Check.refused("a 41st", Check.STATE, () -> x.offer(0, 1));
        Check.refused("not another one", Check.ARGUMENT, () -> x.offer(1, 1));
        Check.same("at the rate of the firm", unloadedAt(7, 900), 7);
        says("The rate is 20 at first, and so is that of rivals.");
        for (int pair = 0; pair < 64; pair++) {
            Check.same("the rate", x.rate(pair / 8, pair % 8, false, 999), 20);
            Check.same("that of rivals", x.rate(pair / 8, pair % 8, true, 1), 20);
        }
        says("A load comes to the firm if its rate is not above that of the rivals.");
        int[][] due = {{20, 20, 0}, {19, 20, 0}, {21, 20, -1}, {1, 999, 0}, {999, 1, -1}, {999, 999, 0}, {2, 1, -1}, {1, 1, 0}};
        for (int[] d : due) {
            Ironbark y = new Ironbark();
            y.rate(3, 4, false, d[0]);
            y.rate(3, 4, true, d[1]);
            Check.same(d[0] + " and " + d[1], y.offer(3, 4), d[2]);
            Check.same("the other direction", y.offer(4, 3), d[2] + 1);
        }
    }

    /** What is got for a bill at such rates of the firm and of rivals, which are others later. */
    private static int unloadedAt(int rate, int rivals) {
        Ironbark x = loadedAt(rate, rivals);
        x.rate(0, 1, false, 55);
        x.rate(0, 1, true, 66);
        x.couple(0, 0);
        Firm.send(x, 0, 0);
        x.run(7);
        x.uncouple(0, 0);
        return x.unload(0);
    }

    private static Ironbark loadedAt(int rate, int rivals) {
        Ironbark x = Firm.withTrain(9);
        x.rate(0, 1, true, rivals);
        x.rate(0, 1, false, rate);
        x.car(0);
        x.load(0, x.offer(0, 1));
        return x;
    }

    private static void loads() {
        says("A car that stands, empty and not with a train, at the station from which a bill is that was not loaded, can be"
            + " loaded with it;");
        Ironbark x = loadedAt(20, 20);
        for (int i = 0; i < 4; i++) {
            x.car(i == 3 ? 1 : 0);
        }
        x.offer(0, 1);
        x.offer(1, 0);
        Check.refusedDeed("not empty", Check.STATE, () -> x.load(0, 1));
        Check.refusedDeed("the bill was loaded", Check.STATE, () -> x.load(1, 0));
        Check.refusedDeed("the bill is from elsewhere", Check.STATE, () -> x.load(1, 2));
        Check.refusedDeed("the car stands elsewhere", Check.STATE, () -> x.load(4, 1));
        x.couple(0, 1);
        Check.refusedDeed("with a train", Check.STATE, () -> x.load(1, 1));
        x.uncouple(0, 1);
        x.load(1, 1);
        Check.same("not any more", x.billOf(1), 1);
        says("when it stands so at the one to which it is, it can be unloaded, and the firm gets the rate that the bill had.");
        Check.refused("not there", Check.STATE, () -> x.unload(0));
        Check.refused("empty", Check.STATE, () -> x.unload(4));
        x.couple(0, 0);
        Firm.send(x, 0, 0);
        x.run(7);
        Check.refused("with a train", Check.STATE, () -> x.unload(0));
        x.uncouple(0, 0);
        int cash = x.cash();
        Check.same("the rate", x.unload(0), 20);
        Check.same("cash", x.cash(), cash + 20);
        Check.same("that it had, the least", unloadedAt(1, 999), 1);
        Check.same("that it had, the most", unloadedAt(999, 999), 999);
    }

    private static void papers() {
        says("Each car has papers, in order: that it came to a station (at first its home), into a train, was loaded with a bill,"
            + " or unloaded.");
        Ironbark x = Firm.withTrain(9);
        x.offer(0, 2);
        x.offer(0, 1);
        x.car(0);
        Check.same("one", x.paper(0, 1), Ironbark.NONE);
        x.load(0, 1);
        x.couple(0, 0);
        Firm.send(x, 0, 0);
        x.run(7);
        x.uncouple(0, 0);
        x.unload(0);
        x.couple(0, 0);
        int[] due = {0, 201, 100, 1, 301, 100, Ironbark.NONE};
        for (int i = 0; i < due.length; i++) {
            Check.same("paper " + i, x.paper(0, i), due[i]);
        }
        asManyPapersAsThereCanBe();
        says("A car with a train comes to a station when it is uncoupled, or when wrecks are cleared.");
        Check.same("with the train", x.carAt(0), 100);
        x.uncouple(0, 0);
        Check.same("uncoupled", x.paper(0, 6) * 1000 + x.carAt(0), 1001);
        Ironbark y = Firm.withWrecks(1, 1);
        Check.same("with wrecks", y.carAt(1) * 10 + y.paper(1, 2), 1009);
        y.clear(0);
        Check.same("cleared", y.carAt(1), 0);
        Check.same("a paper of it", y.paper(1, 2), 0);
        Check.same("and no more", y.paper(1, 3), Ironbark.NONE);
    }

    /** A firm for 512 calls: the 500 that write a paper, and those that look at them. */
    private static void asManyPapersAsThereCanBe() {
        Ironbark x = new Ironbark();
        x.engine(3, 1);
        x.crew(3);
        x.form(0, 0);
        x.car(3);
        for (int i = 0; i < 250; i++) {
            x.couple(0, 0);
            x.uncouple(0, 0);
        }
        Check.same("the first", x.paper(0, 0), 3);
        Check.same("one in the midst", x.paper(0, 249), 100);
        Check.same("the last but one", x.paper(0, 499), 100);
        Check.same("the last", x.paper(0, 500), 3);
        Check.same("no more", x.paper(0, 501), Ironbark.NONE);
        Check.same("by papers", x.carByPapers(0), 3);
    }

    private static void yard(String what, Ironbark x, int station, int... cars) {
        for (int i = 0; i < cars.length; i++) {
            Check.same(what + ", place " + i, x.yardAt(station, i), cars[i]);
        }
        Check.same(what + ", no more", x.yardAt(station, cars.length), Ironbark.NONE);
    }

    private static void yards() {
        says("The yard of a station is the row of cars that stand there, in the order in which they came.");
        Ironbark x = Firm.withTrain(9);
        yard("none", x, 0);
        for (int i = 0; i < 20; i++) {
            x.car(i == 7 ? 1 : 0);
        }
        yard("all but one", x, 0, 0, 1, 2, 3, 4, 5, 6, 8, 9, 10, 11, 12, 13, 14, 15, 16, 17, 18, 19);
        yard("that one", x, 1, 7);
        for (int car : new int[] {0, 19, 5}) {
            x.couple(0, car);
            x.uncouple(0, car);
        }
        yard("the first, the last, one of the midst came again", x, 0, 1, 2, 3, 4, 6, 8, 9, 10, 11, 12, 13, 14, 15, 16, 17, 18,
            0, 19, 5);
        says("To sort it is to bring them into the order of their goals, those with the same goal as they were:");
        Check.same("the same goal", x.sort(0), 0);
        yard("as they were", x, 0, 1, 2, 3, 4, 6, 8, 9, 10, 11, 12, 13, 14, 15, 16, 17, 18, 0, 19, 5);
        for (int car : new int[] {1, 18, 5}) {
            x.load(car, x.offer(0, 7));
        }
        for (int car : new int[] {2, 19}) {
            x.load(car, x.offer(0, 3));
        }
        Check.same("all but the last", x.sort(0), 18);
        yard("by goals", x, 0, 3, 4, 6, 8, 9, 10, 11, 12, 13, 14, 15, 16, 17, 0, 2, 19, 1, 18, 5);
        Check.same("sorted", x.sort(0), 0);
        goals();
    }

    private static void goals() {
        says("the goal of a loaded car is the station to which its bill is, of an empty one its home.");
        Ironbark x = Firm.withTrain(9);
        x.car(1);
        Firm.addCars(x, 0, 2);
        x.uncouple(0, 2);
        x.load(2, x.offer(0, 1));
        x.couple(0, 2);
        Firm.send(x, 0, 0);
        x.run(7);
        x.uncouple(0, 2);
        x.uncouple(0, 1);
        yard("as they came", x, 1, 0, 2, 1);
        Check.same("home 0 comes first", x.sort(1), 3);
        yard("homes 1 and a bill to 1", x, 1, 1, 0, 2);
        x.unload(2);
        Check.same("its home is 0 too", x.sort(1), 2);
        yard("homes 0, 0, 1", x, 1, 1, 2, 0);
    }

    /** Car 0, of home 3, stands at station 0; the blocks are these: first and second end, and minutes. */
    private static Ironbark awayFromHome(int[]... blocks) {
        Ironbark x = new Ironbark();
        x.borrow(20000);
        x.lay(3, 0, 60, 0);
        Firm.addTrain(x, 3, 9);
        Firm.addCars(x, 0, 1);
        Firm.send(x, 0, 0);
        Firm.runFor(x, 100);
        x.uncouple(0, 0);
        for (int[] b : blocks) {
            x.lay(b[0], b[1], b[2], 0);
        }
        return x;
    }

    private static void wayHome() {
        says("The way home of a car that stands, not with a train, is over the blocks that are neither held nor closed, with the"
            + " least sum of minutes;");
        Check.same("the only one", awayFromHome().homeward(0), 0);
        Check.same("as long", awayFromHome(new int[] {0, 3, 60}).homeward(0), 0);
        Check.same("less", awayFromHome(new int[] {0, 3, 59}).homeward(0), 1);
        Check.same("two blocks, less", awayFromHome(new int[] {0, 1, 29}, new int[] {3, 1, 30}).homeward(0), 1);
        Check.same("two blocks, as long", awayFromHome(new int[] {0, 1, 30}, new int[] {3, 1, 30}).homeward(0), 0);
        Check.same("two blocks, more", awayFromHome(new int[] {0, 1, 30}, new int[] {3, 1, 31}).homeward(0), 0);
        Check.same("one leads nowhere", awayFromHome(new int[] {0, 1, 2}, new int[] {1, 2, 2}).homeward(0), 0);
        Ironbark all = awayFromHome(new int[] {2, 3, 2}, new int[] {4, 2, 2}, new int[] {4, 7, 2}, new int[] {6, 7, 2},
            new int[] {5, 6, 2}, new int[] {5, 1, 2}, new int[] {1, 0, 2});
        Check.same("seven blocks, over all stations", all.homeward(0), 7);
        Ironbark x = awayFromHome(new int[] {0, 3, 20}, new int[] {0, 3, 10});
        x.repair(2);
        Check.same("closed", x.homeward(0), 1);
        Firm.learnAll(x, 0);
        Firm.send(x, 0, 1);
        x.run(1);
        Check.same("held", x.homeward(0), 0);
        x.repair(0);
        Check.same("all of them", x.homeward(0), Ironbark.NONE);
        x.run(28);
        Check.same("for the 30th minute", x.homeward(0), 1);
        x.run(1);
        Check.same("open", x.homeward(0), 2);
        x.fail(2, true);
        x.hours(2, 0, 1440);
        Check.same("what bars trains else does not count", x.homeward(0), 2);
        says("its next block is the lowest one with which one of these ways begins.");
        Ironbark y = awayFromHome(new int[] {1, 3, 10}, new int[] {0, 2, 5}, new int[] {0, 1, 5}, new int[] {2, 3, 10},
            new int[] {0, 3, 15}, new int[] {0, 2, 5});
        Check.same("of four", y.homeward(0), 2);
        y.repair(2);
        Check.same("of three", y.homeward(0), 3);
        y.repair(3);
        Check.same("of two", y.homeward(0), 5);
        y.repair(5);
        Check.same("of one", y.homeward(0), 6);
        y.repair(6);
        Check.same("the longer one", y.homeward(0), 0);
    }

    private static void callsThatThrow() {
        says("A call that throws an exception changes nothing.");
        Edges.refused("a station", Firm::busy, Check.INDEX, x -> x.tracks(8, 1));
        Edges.refused("a range", Firm::busy, Check.ARGUMENT, x -> x.borrow(0));
        Edges.refused("a state", Firm::busy, Check.STATE, x -> x.repair(0));
        says("If several apply, the one that the throws clause names first is thrown.");
        Edges.refused("all three", Firm::full, Check.INDEX, x -> x.lay(8, 8, 1, 4));
        Edges.refused("the second and the third", Firm::full, Check.ARGUMENT, x -> x.lay(0, 0, 1, 4));
        Edges.refused("the first and the third", Firm::full, Check.INDEX, x -> x.lay(0, 8, 2, 0));
        Edges.refused("the third", Firm::full, Check.STATE, x -> x.lay(0, 1, 2, 0));
    }

    private static void constants() {
        says("The constants: `NONE = -1`: There is none.");
        Check.same("none", Ironbark.NONE, -1);
        says("`STANDING = 0, READY = 1, RUNNING = 2, WRECKED = 3`: States of trains.");
        Check.same("in order", Ironbark.STANDING * 1000 + Ironbark.READY * 100 + Ironbark.RUNNING * 10 + Ironbark.WRECKED, 123);
        says("`STATION = 0, TRAIN = 1, LOADED = 2, UNLOADED = 3`: Papers of cars.");
        Check.same("in order", Ironbark.STATION * 1000 + Ironbark.TRAIN * 100 + Ironbark.LOADED * 10 + Ironbark.UNLOADED, 123);
    }

    static void tests() {
        bills();
        loads();
        papers();
        yards();
        wayHome();
        callsThatThrow();
        constants();
    }
}
