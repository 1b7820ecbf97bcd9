/** Promises 25 to 29, sentence by sentence: values just inside and just outside, and calls that are refused. */
public final class EdgesBillsTest {
    private static final String NO_STATION = "Throws `IndexOutOfBoundsException` if there is no such station";
    private static final String ITS_CAR = "`car`: its number";
    private static final String NOT_POSSIBLE = "Throws `IllegalStateException` if it is not possible";

    private EdgesBillsTest() {
    }

    private static void promise25Rate() {
        Sentences.says(25, "Sets a rate between two stations, in this direction.");
        Ironbark x = new Ironbark();
        x.rate(0, 1, false, 21);
        Check.same("too high", x.offer(0, 1), Ironbark.NONE);
        Check.same("the other direction is as it was", x.offer(1, 0), 0);
        Check.same("so is another pair", x.offer(0, 2), 1);
        Sentences.says(25, "`from`: 0 to 7");
        Edges.inside(Firm::busy, (y, from) -> y.rate(from, 3, false, 5), 0, 7);
        Sentences.says(25, "`to`: 0 to 7");
        Edges.inside(Firm::busy, (y, to) -> y.rate(3, to, true, 5), 0, 3, 7);
        Sentences.says(25, "`isRival`: whether it is that of the rivals");
        x.rate(2, 3, true, 19);
        Check.same("rivals are lower", x.offer(2, 3), Ironbark.NONE);
        x.rate(2, 3, false, 19);
        Check.same("the firm is as low", x.offer(2, 3), 2);
        Sentences.says(25, "`rate`: 1 to 999");
        for (boolean isRival : new boolean[] {false, true}) {
            Ironbark y = new Ironbark();
            Edges.inside(Firm::busy, (z, rate) -> z.rate(0, 7, isRival, rate), 1, 999);
            y.rate(0, 7, isRival, 999);
            Check.same("the most", y.rate(0, 7, isRival, 1), 999);
            Check.same("the least", y.rate(0, 7, isRival, 1), 1);
        }
        Sentences.says(25, "Returns the rate before.");
        Check.same("that of the firm", x.rate(2, 3, false, 20), 19);
        Check.same("that of the rivals", x.rate(2, 3, true, 20), 19);
        Check.same("at first, of the last", x.rate(7, 7, false, 20), 20);
        promise25OutOfRange();
    }

    private static void promise25OutOfRange() {
        Sentences.says(25, NO_STATION);
        for (boolean isRival : new boolean[] {false, true}) {
            Edges.noSuch(Firm::busy, 8, (x, from) -> x.rate(from, 0, isRival, 1));
            Edges.noSuch(Firm::busy, 8, (x, to) -> x.rate(0, to, isRival, 1));
            Edges.refused("rate too", Firm::busy, Check.INDEX, x -> x.rate(8, 0, isRival, 0));
            Edges.refused("rate too", Firm::busy, Check.INDEX, x -> x.rate(0, -1, isRival, 1000));
        }
        Sentences.says(25, "Throws `IllegalArgumentException` if rate is out of range");
        Edges.outside(Firm::busy, 1, 999, (x, rate) -> x.rate(0, 1, false, rate));
        Edges.outside(Firm::busy, 1, 999, (x, rate) -> x.rate(1, 2, true, rate));
    }

    private static Ironbark withBills(int count) {
        Ironbark x = new Ironbark();
        for (int i = 0; i < count; i++) {
            x.offer(0, 1);
        }
        return x;
    }

    /** All bills that there can be, and rivals that would get the next load from 0 to 1. */
    private static Ironbark withBillsAndRivals() {
        Ironbark x = withBills(40);
        x.rate(0, 1, true, 1);
        return x;
    }

    private static void promise26Offer() {
        Sentences.says(26, "Offers a load.");
        Ironbark x = withBills(1);
        x.car(0);
        x.load(0, 0);
        Check.same("there is a bill", x.billOf(0), 0);
        Sentences.says(26, "`from`: 0 to 7");
        Edges.inside(Firm::busy, (y, from) -> y.offer(from, 3), 0, 7);
        Sentences.says(26, "`to`: 0 to 7, another one");
        Edges.inside(Firm::busy, (y, to) -> y.offer(3, to), 0, 2, 4, 7);
        Sentences.says(26, "Returns the number of the bill; NONE, if rivals get it.");
        Check.same("the first", new Ironbark().offer(0, 1), 0);
        Check.same("the last", withBills(39).offer(7, 0), 39);
        x.rate(0, 1, false, 21);
        Check.same("rivals get it", x.offer(0, 1), Ironbark.NONE);
        x.rate(0, 1, true, 21);
        Check.same("the next number, all the same", x.offer(0, 1), 1);
        Sentences.says(26, NO_STATION);
        Edges.noSuch(Firm::busy, 8, (y, from) -> y.offer(from, 0));
        Edges.noSuch(Firm::busy, 8, (y, to) -> y.offer(0, to));
        Edges.noSuch(Firm::busy, 8, (y, both) -> y.offer(both, both));
        Edges.refused("there are 40 too", Firm::full, Check.INDEX, y -> y.offer(0, 8));
        Sentences.says(26, "Throws `IllegalArgumentException` if both are the same");
        Edges.refused("both 0", Firm::busy, Check.ARGUMENT, y -> y.offer(0, 0));
        Edges.refused("both 7", Firm::busy, Check.ARGUMENT, y -> y.offer(7, 7));
        Edges.refused("there are 40 too", Firm::full, Check.ARGUMENT, y -> y.offer(7, 7));
        Sentences.says(26, "Throws `IllegalStateException` if there are 40 bills");
        Edges.refused("a 41st", Firm::full, Check.STATE, y -> y.offer(0, 1));
        Edges.refused("a 41st", () -> withBills(40), Check.STATE, y -> y.offer(7, 0));
        Edges.refused("a 41st, that rivals would get", EdgesBillsTest::withBillsAndRivals, Check.STATE, y -> y.offer(0, 1));
        Edges.inside(() -> withBills(39), (y, from) -> y.offer(from, 1), 0);
    }

    /** Bills 0 and 1 are from 0 to 1, bill 2 from 1 to 0; car 0 is loaded with bill 0, car 1 with train 0, car 2 empty. */
    private static Ironbark withLoads() {
        Ironbark x = Firm.withTrain(9);
        for (int i = 0; i < 4; i++) {
            x.car(0);
        }
        x.offer(0, 1);
        x.offer(0, 1);
        x.offer(1, 0);
        x.load(0, 0);
        x.couple(0, 1);
        return x;
    }

    /** Train 0 brought car 0, loaded with bill 0, and car 1, empty, to station 1. */
    private static Ironbark brought() {
        Ironbark x = withLoads();
        x.couple(0, 0);
        Firm.send(x, 0, 0);
        x.run(7);
        return x;
    }

    private static Ironbark uncoupled() {
        Ironbark x = brought();
        x.uncouple(0, 0);
        x.uncouple(0, 1);
        return x;
    }

    private static Ironbark unloaded() {
        Ironbark x = uncoupled();
        x.unload(0);
        return x;
    }

    private static void promise27Load() {
        Sentences.says(27, "Loads a car.");
        Ironbark x = withLoads();
        x.load(2, 1);
        Check.same("it is", x.billOf(2), 1);
        Check.same("no other one", x.billOf(3), Ironbark.NONE);
        Sentences.says(27, ITS_CAR);
        Ironbark full = Firm.full();
        full.load(0, 0);
        full.load(17, 39);
        Check.same("the first", full.billOf(0), 0);
        Sentences.says(27, "`bill`: the bill");
        Check.same("the last", full.billOf(17), 39);
        Sentences.says(27, "Throws `IndexOutOfBoundsException` if there is no such car or bill");
        Edges.noSuch(EdgesBillsTest::withLoads, 4, (y, car) -> y.load(car, 1));
        Edges.noSuch(Firm::full, 20, (y, car) -> y.load(car, 0));
        Edges.noSuch(EdgesBillsTest::withLoads, 3, (y, bill) -> y.load(2, bill));
        Edges.noSuch(Firm::full, 40, (y, bill) -> y.load(0, bill));
        Edges.refused("the car is loaded too", EdgesBillsTest::withLoads, Check.INDEX, y -> y.load(0, 3));
        Edges.refused("the bill was loaded too", EdgesBillsTest::withLoads, Check.INDEX, y -> y.load(4, 0));
        Sentences.says(27, NOT_POSSIBLE);
        Edges.refused("loaded with another bill", EdgesBillsTest::withLoads, Check.STATE, y -> y.load(0, 1));
        Edges.refused("loaded with this bill", EdgesBillsTest::withLoads, Check.STATE, y -> y.load(0, 0));
        Edges.refused("with a train", EdgesBillsTest::withLoads, Check.STATE, y -> y.load(1, 1));
        Edges.refused("the bill was loaded", EdgesBillsTest::withLoads, Check.STATE, y -> y.load(2, 0));
        Edges.refused("from another station", EdgesBillsTest::withLoads, Check.STATE, y -> y.load(2, 2));
        Edges.refused("at the station to which it is", EdgesBillsTest::uncoupled, Check.STATE, y -> y.load(1, 1));
        Edges.refused("the bill was unloaded", EdgesBillsTest::unloaded, Check.STATE, y -> y.load(2, 0));
        Edges.inside(EdgesBillsTest::withLoads, (y, car) -> y.load(car, 1), 2, 3);
        // Empty again, it takes another load; an empty one that came takes it too.
        Edges.inside(EdgesBillsTest::unloaded, (y, car) -> y.load(car, 2), 0, 1);
    }

    private static void promise28Unload() {
        Sentences.says(28, "Unloads a car.");
        Ironbark x = uncoupled();
        int cash = x.cash();
        x.unload(0);
        Check.same("it is empty", x.billOf(0), Ironbark.NONE);
        Check.same("is paid", x.cash(), cash + 20);
        Sentences.says(28, ITS_CAR);
        Edges.inside(EdgesBillsTest::uncoupled, Ironbark::unload, 0);
        Ironbark last = withTwentyCars();
        last.load(19, last.offer(0, 1));
        last.couple(0, 19);
        Firm.send(last, 0, 0);
        last.run(7);
        last.uncouple(0, 19);
        Check.same("the last", last.unload(19), 20);
        Sentences.says(28, "Returns what the firm gets.");
        Check.same("the rate that the bill had", unloadedAtRate(1), 1);
        Check.same("the rate that the bill had", unloadedAtRate(999), 999);
        Sentences.says(28, "Throws `IndexOutOfBoundsException` if there is no such car");
        Edges.noSuch(EdgesBillsTest::withLoads, 4, Ironbark::unload);
        Edges.noSuch(Firm::full, 20, Ironbark::unload);
        Sentences.says(28, NOT_POSSIBLE);
        Edges.refused("empty", EdgesBillsTest::withLoads, Check.STATE, y -> y.unload(2));
        Edges.refused("from where the bill is", EdgesBillsTest::withLoads, Check.STATE, y -> y.unload(0));
        Edges.refused("with a train, there", EdgesBillsTest::brought, Check.STATE, y -> y.unload(0));
        Edges.refused("came empty", EdgesBillsTest::uncoupled, Check.STATE, y -> y.unload(1));
        Edges.refused("unloaded", EdgesBillsTest::unloaded, Check.STATE, y -> y.unload(0));
    }

    private static Ironbark withTwentyCars() {
        Ironbark x = Firm.withTrain(9);
        for (int i = 0; i < 20; i++) {
            x.car(0);
        }
        return x;
    }

    /** What is got for a bill of a rate, as both rates are others by then. */
    private static int unloadedAtRate(int rate) {
        Ironbark x = Firm.withTrain(9);
        x.rate(0, 1, true, 999);
        x.rate(0, 1, false, rate);
        x.car(0);
        x.load(0, x.offer(0, 1));
        x.rate(0, 1, false, 500);
        x.rate(0, 1, true, 501);
        x.couple(0, 0);
        Firm.send(x, 0, 0);
        x.run(7);
        x.uncouple(0, 0);
        return x.unload(0);
    }

    private static void promise29Sort() {
        Sentences.says(29, "Sorts a yard.");
        Ironbark x = withTwentyCars();
        for (int i = 0; i < 20; i++) {
            x.load(i, x.offer(0, 7 - i % 7));
        }
        x.sort(0);
        for (int i = 0; i < 20; i++) {
            // Goals 1 to 7, of which 1 has but two cars, each three places farther on.
            int due = i < 2 ? 6 + 7 * i : 5 - (i - 2) / 3 + 7 * ((i - 2) % 3);
            Check.same("place " + i, x.yardAt(0, i), due);
        }
        Check.same("no more", x.yardAt(0, 20), Ironbark.NONE);
        Sentences.says(29, "`station`: 0 to 7");
        Edges.inside(Firm::full, Ironbark::sort, 0, 7);
        Sentences.says(29, "Returns at how many places another car stands then.");
        Check.same("an empty yard", new Ironbark().sort(7), 0);
        Check.same("one car", withLoads().sort(1), 0);
        Check.same("all the same goal", withTwentyCars().sort(0), 0);
        Check.same("it is sorted", x.sort(0), 0);
        Ironbark two = withTwentyCars();
        two.load(18, two.offer(0, 1));
        Check.same("the last two", two.sort(0), 2);
        two.load(0, two.offer(0, 2));
        Check.same("all twenty", two.sort(0), 20);
        Ironbark back = withTwentyCars();
        back.load(0, back.offer(0, 1));
        Check.same("the first one comes last", back.sort(0), 20);
        Sentences.says(29, NO_STATION);
        Edges.noSuch(Firm::busy, 8, Ironbark::sort);
    }

    public static void main(String[] arguments) {
        promise25Rate();
        promise26Offer();
        promise27Load();
        promise28Unload();
        promise29Sort();
        Sentences.allSaid(25, 29);
        Check.end();
    }
}
