/** Firms with which tests begin. */
final class Firm {
    private Firm() {
    }

    /** Block 0 from station 0 to 1 in 5 minutes, and train 0 at station 0, of engine 0 of a power, and crew 0. */
    static Ironbark withTrain(int power) {
        Ironbark x = new Ironbark();
        x.lay(0, 1, 5, 0);
        addTrain(x, 0, power);
        return x;
    }

    /** Another train at a station, whose crew knows all blocks. */
    static int addTrain(Ironbark x, int station, int power) {
        int engine = x.engine(station, power);
        int crew = x.crew(station);
        learnAll(x, crew);
        return x.form(engine, crew);
    }

    static void learnAll(Ironbark x, int crew) {
        for (int block = 0; isBlock(x, block); block++) {
            x.learn(crew, block);
        }
    }

    private static boolean isBlock(Ironbark x, int block) {
        try {
            x.holder(block);
            return true;
        } catch (IndexOutOfBoundsException e) {
            return false;
        }
    }

    /** Gives a train a way from now on, of rank 0. */
    static void send(Ironbark x, int train, int... blocks) {
        for (int block : blocks) {
            x.leg(block);
        }
        x.plan(train, 0, 0);
    }

    /** Buys cars at a station and couples them all; tells the number of the first. */
    static int addCars(Ironbark x, int train, int count) {
        int first = Ironbark.NONE;
        for (int i = 0; i < count; i++) {
            int car = x.car(x.train(train, 1));
            x.couple(train, car);
            first = i == 0 ? car : first;
        }
        return first;
    }

    static void runFor(Ironbark x, int minutes) {
        for (int left = minutes; left > 0; left -= 300) {
            x.run(Math.min(left, 300));
        }
    }

    /** Two trains wrecked in block 0, whose first end is station 0; each had cars. */
    static Ironbark withWrecks(int carsOfFirst, int carsOfSecond) {
        Ironbark x = withTrain(9);
        addTrain(x, 1, 9);
        addCars(x, 0, carsOfFirst);
        addCars(x, 1, carsOfSecond);
        send(x, 1, 0);
        x.run(1);
        send(x, 0, 0);
        x.passSignal(0);
        return x;
    }

    /** In the midst of things: train 0 runs, 1 stands, 2 is ready and waits; two blocks are drafted. */
    static Ironbark busy() {
        Ironbark x = new Ironbark();
        x.borrow(20000);
        x.lay(0, 1, 5, 0);
        x.lay(1, 2, 10, 0);
        x.lay(2, 3, 7, 1);
        x.lay(3, 0, 20, 2);
        for (int station = 0; station < 3; station++) {
            addTrain(x, station, 9 - station);
        }
        x.engine(3, 4);
        x.crew(3);
        x.crew(3);
        x.rest(4);
        addCars(x, 0, 3);
        for (int home : new int[] {0, 1, 1}) {
            x.car(home);
        }
        x.rate(0, 1, false, 15);
        x.rate(1, 2, true, 30);
        x.offer(0, 1);
        x.offer(1, 2);
        x.offer(1, 0);
        x.load(3, 0);
        x.load(4, 1);
        send(x, 0, 0, 1);
        x.leg(2);
        x.plan(2, 50, 3);
        x.await(2, 1, 2);
        x.fail(3, true);
        x.flag(3);
        x.hours(2, 100, 200);
        x.leg(1);
        x.leg(2);
        x.run(3);
        return x;
    }

    /** All that there can be: 16 blocks, 6 engines, crews and trains, 20 cars, 40 bills, 8 drafted, the whole debt. */
    static Ironbark full() {
        Ironbark x = new Ironbark();
        x.borrow(20000);
        x.borrow(20000);
        x.borrow(10000);
        for (int i = 0; i < 16; i++) {
            x.lay(i % 8, (i + 1) % 8, 2 + i, i % 4);
        }
        for (int i = 0; i < 6; i++) {
            x.engine(i / 2, 9 - i);
            x.crew(i / 2);
            x.learn(i, 0);
            x.form(i, i);
        }
        for (int i = 0; i < 20; i++) {
            x.car(i < 11 ? 0 : i % 8);
        }
        for (int i = 0; i < 40; i++) {
            x.offer(i % 2, 2);
        }
        for (int i = 0; i < 8; i++) {
            x.leg(i % 2 == 0 ? 0 : 8);
        }
        return x;
    }

    /** At the last minute of the clock, with a train that is ready. */
    static Ironbark atTheEnd() {
        Ironbark x = withTrain(9);
        runFor(x, 20000);
        send(x, 0, 0);
        return x;
    }
}
