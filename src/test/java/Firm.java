/** Firms with which tests begin. */
final class Firm {
    private Firm() {
    }

    /** Block 0 from station 0 to 1 in 5 minutes, and train 0 at station 0, of engine 0 of a power, and crew 0. */
    static Ironbark withTrain(int power) {
        Ironbark x = new Ironbark();
        x.lay(0, 1, 5, 0);
        addTrain(x, 0, power);
        return x;
    }

    /** Another train at a station, whose crew knows all blocks. */
    static int addTrain(Ironbark x, int station, int power) {
        int engine = x.engine(station, power);
        int crew = x.crew(station);
        learnAll(x, crew);
        return x.form(engine, crew);
    }

    static void learnAll(Ironbark x, int crew) {
        for (int block = 0; isBlock(x, block); block++) {
            x.learn(crew, block);
        }
    }

    private static boolean isBlock(Ironbark x, int block) {
        try {
            x.holder(block);
            return true;
        } catch (IndexOutOfBoundsException e) {
            return false;
        }
    }

    /** Gives a train a way from now on, of rank 0. */
    static void send(Ironbark x, int train, int... blocks) {
        for (int block : blocks) {
            x.leg(block);
        }
        x.plan(train, 0, 0);
    }

    /** Buys cars at a station and couples them all; tells the number of the first. */
    static int addCars(Ironbark x, int train, int count) {
        int first = Ironbark.NONE;
        for (int i = 0; i < count; i++) {
            int car = x.car(x.train(train, 1));
            x.couple(train, car);
            first = i == 0 ? car : first;
        }
        return first;
    }

    static void runFor(Ironbark x, int minutes) {
        for (int left = minutes; left > 0; left -= 300) {
            x.run(Math.min(left, 300));
        }
    }

    /** Two trains wrecked in block 0, whose first end is station 0; each had cars. */
    static Ironbark withWrecks(int carsOfFirst, int carsOfSecond) {
        Ironbark x = withTrain(9);
        addTrain(x, 1, 9);
        addCars(x, 0, carsOfFirst);
        addCars(x, 1, carsOfSecond);
        send(x, 1, 0);
        x.run(1);
        send(x, 0, 0);
        x.passSignal(0);
        return x;
    }
}
