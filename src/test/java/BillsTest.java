/** Promises 25 to 29: rates, bills, loads and yards. */
public final class BillsTest {
    private BillsTest() {
    }

    private static void promise25Rate() {
        Ironbark x = new Ironbark();
        Check.same("25 at first", x.rate(0, 7, false, 999), 20);
        Check.same("25 of rivals at first", x.rate(0, 7, true, 1), 20);
        Check.same("25 before", x.rate(0, 7, false, 30), 999);
        Check.same("25 of rivals before", x.rate(0, 7, true, 30), 1);
        Check.same("25 the other direction", x.rate(7, 0, false, 5), 20);
        Check.same("25 another pair", x.rate(1, 7, false, 5), 20);
        Check.same("25 the same station", x.rate(3, 3, false, 5), 20);
        Check.refused("25 from", Check.INDEX, () -> x.rate(8, 0, false, 0));
        Check.refused("25 from alone", Check.INDEX, () -> x.rate(-1, 7, false, 5));
        Check.refused("25 to alone", Check.INDEX, () -> x.rate(0, 8, false, 5));
        Check.refused("25 to", Check.INDEX, () -> x.rate(0, -1, true, 5));
        Check.refused("25 rate 0", Check.ARGUMENT, () -> x.rate(0, 1, false, 0));
        Check.refused("25 rate 1000", Check.ARGUMENT, () -> x.rate(0, 1, true, 1000));
        Check.same("25 unchanged", x.rate(0, 1, false, 9), 20);
    }

    private static void promise26Offer() {
        Ironbark x = new Ironbark();
        Check.same("26 the same rate", x.offer(0, 1), 0);
        x.rate(0, 1, false, 21);
        Check.same("26 rivals get it", x.offer(0, 1), -1);
        Check.same("26 the other direction", x.offer(1, 0), 1);
        x.rate(0, 1, true, 22);
        Check.same("26 below that of the rivals", x.offer(0, 1), 2);
        Check.refused("26 from", Check.INDEX, () -> x.offer(-1, -1));
        Check.refused("26 from alone", Check.INDEX, () -> x.offer(8, 0));
        Check.refused("26 from alone", Check.INDEX, () -> x.offer(-1, 7));
        Check.refused("26 to", Check.INDEX, () -> x.offer(0, 8));
        Check.refused("26 the same", Check.ARGUMENT, () -> x.offer(0, 0));
        for (int i = 3; i < 40; i++) {
            Check.same("26 number", x.offer(2, 3), i);
        }
        Check.refused("26 there are 40", Check.STATE, () -> x.offer(2, 3));
        x.rate(2, 3, true, 1);
        Check.refused("26 there are 40, of rivals too", Check.STATE, () -> x.offer(2, 3));
        Check.refused("26 the same first", Check.ARGUMENT, () -> x.offer(3, 3));
    }

    private static void promise27Load() {
        Ironbark x = Firm.withTrain(9);
        for (int i = 0; i < 4; i++) {
            x.car(0);
        }
        x.offer(0, 1);
        x.offer(0, 2);
        x.offer(1, 0);
        Check.refusedDeed("27 car", Check.INDEX, () -> x.load(4, 0));
        Check.refusedDeed("27 bill", Check.INDEX, () -> x.load(0, 3));
        Check.refusedDeed("27 bill -1", Check.INDEX, () -> x.load(0, -1));
        Check.refusedDeed("27 from elsewhere", Check.STATE, () -> x.load(0, 2));
        x.load(0, 0);
        Check.same("27 loaded", x.billOf(0), 0);
        Check.same("27 paper", x.paper(0, 1), 200);
        Check.refusedDeed("27 loaded already", Check.STATE, () -> x.load(0, 1));
        Check.refusedDeed("27 the bill was loaded", Check.STATE, () -> x.load(1, 0));
        x.couple(0, 1);
        Check.refusedDeed("27 with a train", Check.STATE, () -> x.load(1, 1));
        x.load(2, 1);
        Check.same("27 paper", x.paper(2, 1), 201);
        x.couple(0, 0);
        Check.same("27 weight", x.train(0, 3), 7);
        Firm.send(x, 0, 0);
        x.run(6);
        x.uncouple(0, 0);
        x.unload(0);
        x.load(0, 2);
        x.couple(0, 0);
        x.uncouple(0, 1);
        x.run(1);
        Firm.send(x, 0, 0);
        x.run(6);
        x.uncouple(0, 0);
        x.unload(0);
        Check.refusedDeed("27 a bill that was unloaded", Check.STATE, () -> x.load(3, 0));
        Check.same("27 stays empty", x.billOf(3), -1);
    }

    private static void promise28Unload() {
        Ironbark x = Firm.withTrain(9);
        x.car(0);
        x.car(0);
        x.rate(0, 1, false, 15);
        x.offer(0, 1);
        x.rate(0, 1, false, 99);
        x.rate(0, 1, true, 10);
        Check.refused("28 car", Check.INDEX, () -> x.unload(2));
        Check.refused("28 empty", Check.STATE, () -> x.unload(0));
        x.load(0, 0);
        Check.refused("28 not at its goal", Check.STATE, () -> x.unload(0));
        x.couple(0, 0);
        Firm.send(x, 0, 0);
        x.run(6);
        Check.refused("28 with a train", Check.STATE, () -> x.unload(0));
        x.uncouple(0, 0);
        int cash = x.cash();
        Check.same("28 the rate that it had", x.unload(0), 15);
        Check.same("28 cash", x.cash(), cash + 15);
        Check.same("28 empty then", x.billOf(0), -1);
        Check.same("28 paper", x.paper(0, 4), 300);
        Check.refused("28 once", Check.STATE, () -> x.unload(0));
        x.couple(0, 0);
        Check.same("28 weight", x.train(0, 3), 2);
    }

    private static void promise28NumberOfThePaper() {
        Ironbark x = Firm.withTrain(9);
        for (int i = 0; i < 40; i++) {
            x.offer(0, 1);
        }
        x.car(0);
        x.load(0, 39);
        x.couple(0, 0);
        Firm.send(x, 0, 0);
        x.run(6);
        x.uncouple(0, 0);
        x.unload(0);
        Check.same("28 loaded", x.paper(0, 1), 239);
        Check.same("28 unloaded", x.paper(0, 4), 339);
    }

    private static void yard(String what, Ironbark x, int station, int... cars) {
        for (int i = 0; i < cars.length; i++) {
            Check.same("29 " + what + ", place " + i, x.yardAt(station, i), cars[i]);
        }
        Check.same("29 " + what + ", no more", x.yardAt(station, cars.length), -1);
    }

    private static void promise29Sort() {
        Ironbark x = new Ironbark();
        Check.refused("29 station", Check.INDEX, () -> x.sort(8));
        Check.refused("29 station -1", Check.INDEX, () -> x.sort(-1));
        Check.same("29 an empty yard", x.sort(3), 0);
        for (int i = 0; i < 6; i++) {
            x.car(3);
        }
        Check.same("29 the same goal", x.sort(3), 0);
        yard("as they were", x, 3, 0, 1, 2, 3, 4, 5);
        x.load(0, x.offer(3, 7));
        x.load(2, x.offer(3, 1));
        x.load(4, x.offer(3, 1));
        x.load(5, x.offer(3, 0));
        Check.same("29 places that changed", x.sort(3), 6);
        yard("by goals", x, 3, 5, 2, 4, 1, 3, 0);
        Check.same("29 sorted", x.sort(3), 0);
        x.car(3);
        Check.same("29 an empty one goes home", x.sort(3), 2);
        yard("by goals again", x, 3, 5, 2, 4, 1, 3, 6, 0);
    }

    private static void promise29Homes() {
        Ironbark x = Firm.withTrain(9);
        x.car(1);
        Firm.addCars(x, 0, 2);
        Firm.send(x, 0, 0);
        x.run(6);
        x.uncouple(0, 2);
        x.uncouple(0, 1);
        yard("as they came", x, 1, 0, 2, 1);
        Check.same("29 three changed", x.sort(1), 3);
        yard("by homes", x, 1, 2, 1, 0);
        Check.same("29 the other yard", x.yardAt(0, 0), -1);
    }

    public static void main(String[] arguments) {
        promise25Rate();
        promise26Offer();
        promise27Load();
        promise28Unload();
        promise28NumberOfThePaper();
        promise29Sort();
        promise29Homes();
        Check.end();
    }
}
