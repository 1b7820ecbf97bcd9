import java.util.ArrayList;
import java.util.Arrays;

/** A railway firm; what each call does is told by the promises of the document. */
public final class Ironbark {
    public static final int NONE = -1;
    public static final int STANDING = 0, READY = 1, RUNNING = 2, WRECKED = 3;
    public static final int STATION = 0, TRAIN = 1, LOADED = 2, UNLOADED = 3;

    private static final int STATIONS = 8, MOST_TRACKS = 4;
    private static final int MOST_BLOCKS = 16, MOST_ENGINES = 6, MOST_CREWS = 6;
    private static final int MOST_CARS = 20, MOST_TRAINS = 6, MOST_BILLS = 40;
    private static final int MOST_COUPLED = 10, MOST_LEGS = 8;
    private static final int DAY = 1440, LAST_MINUTE = 20000;
    private static final int SLOW_WEAR = 60, REPAIR_MINUTES = 30;
    private static final int REST_MINUTES = 480, MOST_DUTY = 600;
    private static final int FIRST_CASH = 5000, MOST_DEBT = 50000;
    private static final int FIRST_RATE = 20;
    private static final int FAR = 1000000;

    private final Station[] stations = new Station[STATIONS];
    private final ArrayList<Block> blocks = new ArrayList<Block>();
    private final ArrayList<Engine> engines = new ArrayList<Engine>();
    private final ArrayList<Crew> crews = new ArrayList<Crew>();
    private final ArrayList<Car> cars = new ArrayList<Car>();
    private final ArrayList<Bill> bills = new ArrayList<Bill>();
    /** All trains that there can be; the state of one that is not formed is NONE. */
    private final Train[] trains = new Train[MOST_TRAINS];
    private final int[] ownRates = new int[STATIONS * STATIONS];
    private final int[] rivalRates = new int[STATIONS * STATIONS];
    private final Row draft = new Row(MOST_LEGS);
    private final Row sorted = new Row(MOST_CARS);
    private final int[] distances = new int[STATIONS];
    private int now = 0;
    private int money = FIRST_CASH;
    private int owed = 0;
    private int lastBroken = 0;

    public Ironbark() {
        for (int i = 0; i < stations.length; i++) {
            stations[i] = new Station();
        }
        for (int i = 0; i < trains.length; i++) {
            trains[i] = new Train(i);
        }
        Arrays.fill(ownRates, FIRST_RATE);
        Arrays.fill(rivalRates, FIRST_RATE);
    }

    // ---- building

    public int tracks(int station, int tracks)
            throws IndexOutOfBoundsException, IllegalArgumentException, IllegalStateException {
        Station place = stationOf(station);
        requireRange(tracks, 1, MOST_TRACKS);
        requireState(takenTracks(station) <= tracks);
        int before = place.tracks;
        place.tracks = tracks;
        return before;
    }

    public int lay(int first, int second, int minutes, int grade)
            throws IndexOutOfBoundsException, IllegalArgumentException, IllegalStateException {
        requireStation(first);
        requireStation(second);
        requireArgument(first != second);
        requireRange(minutes, 2, 60);
        requireRange(grade, 0, 3);
        requireState(blocks.size() < MOST_BLOCKS);
        money -= 100 * minutes;
        blocks.add(new Block(first, second, minutes, grade));
        return blocks.size() - 1;
    }

    public boolean fail(int block, boolean fails) throws IndexOutOfBoundsException {
        Block b = blockOf(block);
        boolean before = b.failed;
        b.failed = fails;
        b.flagged = false;
        return before;
    }

    public void flag(int block) throws IndexOutOfBoundsException, IllegalStateException {
        Block b = blockOf(block);
        requireState(b.failed && !b.flagged);
        b.flagged = true;
    }

    public void hours(int block, int from, int to)
            throws IndexOutOfBoundsException, IllegalArgumentException {
        Block b = blockOf(block);
        requireRange(from, 0, DAY);
        requireRange(to, from, DAY);
        b.othersFrom = from;
        b.othersTo = to;
    }

    public int repair(int block) throws IndexOutOfBoundsException, IllegalStateException {
        Block b = blockOf(block);
        requireState(b.holderAt(now) == NONE && !b.isClosedAt(now));
        int cost = 5 * b.wear;
        money -= cost;
        b.wear = 0;
        b.closedUntil = now + REPAIR_MINUTES;
        return cost;
    }

    public int engine(int station, int power)
            throws IndexOutOfBoundsException, IllegalArgumentException, IllegalStateException {
        requireStation(station);
        requireRange(power, 1, 9);
        requireState(engines.size() < MOST_ENGINES);
        money -= 100 * power;
        engines.add(new Engine(station, power));
        return engines.size() - 1;
    }

    public int crew(int station) throws IndexOutOfBoundsException, IllegalStateException {
        requireStation(station);
        requireState(crews.size() < MOST_CREWS);
        crews.add(new Crew(station));
        return crews.size() - 1;
    }

    public int learn(int crew, int block) throws IndexOutOfBoundsException {
        Crew c = crewOf(crew);
        requireBlock(block);
        c.known |= 1 << block;
        return Integer.bitCount(c.known);
    }

    public int rest(int crew) throws IndexOutOfBoundsException, IllegalStateException {
        Crew c = crewOf(crew);
        requireState(!c.isRestingAt(now));
        requireState(c.train == NONE || trainOf(c.train).stands());
        c.duty = 0;
        c.restEnd = now + REST_MINUTES;
        return c.restEnd;
    }

    public int car(int home) throws IndexOutOfBoundsException, IllegalStateException {
        Station place = stationOf(home);
        requireState(cars.size() < MOST_CARS);
        money -= 50;
        Car c = new Car(home);
        c.write(STATION, home);
        cars.add(c);
        place.yard.append(cars.size() - 1);
        return cars.size() - 1;
    }

    public int borrow(int amount) throws IllegalArgumentException, IllegalStateException {
        requireRange(amount, 1, 20000);
        requireState(owed + amount <= MOST_DEBT);
        owed += amount;
        money += amount;
        return owed;
    }

    public int repay(int amount) throws IllegalArgumentException, IllegalStateException {
        requireRange(amount, 1, MOST_DEBT);
        requireState(amount <= owed && amount <= money);
        owed -= amount;
        money -= amount;
        return owed;
    }

    // ---- trains

    public int form(int engine, int crew) throws IndexOutOfBoundsException, IllegalStateException {
        Engine e = engineOf(engine);
        Crew c = crewOf(crew);
        requireState(e.train == NONE && c.train == NONE);
        requireState(e.station == c.station && !c.isRestingAt(now));
        requireState(freeTracksAt(e.station) > 0);
        int number = leastFreeNumber();
        requireState(number != NONE);
        trains[number].start(engine, crew, e.power, e.station);
        e.train = number;
        c.train = number;
        return number;
    }

    public int dissolve(int train) throws IndexOutOfBoundsException, IllegalStateException {
        Train t = trainOf(train);
        requireState(t.stands() && t.cars.count == 0 && t.isClearAt(now));
        sendOff(t, t.station);
        return t.station;
    }

    public int couple(int train, int car) throws IndexOutOfBoundsException, IllegalStateException {
        Train t = trainOf(train);
        Car c = carOf(car);
        requireState(t.stands() && t.cars.count < MOST_COUPLED);
        requireState(c.train == NONE && c.station == t.station);
        stationOf(c.station).yard.drop(car);
        t.cars.append(car);
        t.weight += c.weight();
        c.train = train;
        c.write(TRAIN, train);
        return t.cars.count;
    }

    public int uncouple(int train, int car)
            throws IndexOutOfBoundsException, IllegalStateException {
        Train t = trainOf(train);
        Car c = carOf(car);
        requireState(t.stands() && c.train == train);
        t.cars.drop(car);
        t.weight -= c.weight();
        bringToYard(car, t.station);
        return t.cars.count;
    }

    public int leg(int block) throws IndexOutOfBoundsException, IllegalStateException {
        requireBlock(block);
        requireState(draft.count < MOST_LEGS);
        draft.append(block);
        return draft.count;
    }

    public int plan(int train, int minute, int rank)
            throws IndexOutOfBoundsException, IllegalArgumentException, IllegalStateException {
        Train t = trainOf(train);
        requireRange(minute, 0, LAST_MINUTE);
        requireRange(rank, 0, 9);
        requireState(t.stands() && draft.count > 0);
        int end = endOfDraft(t.station);
        requireState(end != NONE);
        t.way.copy(draft);
        t.entered = 0;
        t.minute = minute;
        t.rank = rank;
        t.state = READY;
        draft.empty();
        return end;
    }

    public void await(int train, int other, int station)
            throws IndexOutOfBoundsException, IllegalStateException {
        Train t = trainOf(train);
        if (other != NONE) {
            requireTrain(other);
        }
        requireStation(station);
        requireState(train != other);
        t.awaited = other;
        t.awaitedAt = station;
    }

    public int run(int minutes) throws IllegalArgumentException, IllegalStateException {
        requireRange(minutes, 1, 300);
        requireState(now + minutes <= LAST_MINUTE);
        int count = 0;
        for (int i = 0; i < minutes; i++) {
            // Blocks become free and open again by the clock alone: they keep until when.
            now++;
            arriveAll();
            if (now % DAY == 0) {
                beginDay();
            }
            count += enterAll();
        }
        return count;
    }

    public boolean passSignal(int train) throws IndexOutOfBoundsException, IllegalStateException {
        Train t = trainOf(train);
        requireState(t.state == READY);
        int number = t.nextBlock();
        Block b = blockOf(number);
        int bar = barOfStart(t, b);
        requireState(bar >= 3 && barOfRun(t, b, number) == 0);
        int holder = b.holderAt(now);
        requireState(holder != train && !b.hasWrecks);
        money -= 50;
        lastBroken = bar;
        if (holder != NONE) {
            wreck(t, number);
            wreck(trainOf(holder), number);
            b.hasWrecks = true;
            return false;
        }
        enter(t, b, number);
        return true;
    }

    public int clear(int block) throws IndexOutOfBoundsException, IllegalStateException {
        Block b = blockOf(block);
        requireState(b.hasWrecks);
        money -= 500;
        int count = 0;
        for (int i = 0; i < trains.length; i++) {
            Train t = trains[i];
            if (t.state == WRECKED && t.block == block) {
                bringCarsToYard(t, b.first);
                sendOff(t, b.first);
                count++;
            }
        }
        b.hasWrecks = false;
        b.closedUntil = 0;
        return count;
    }

    // ---- bills and yards

    public int rate(int from, int to, boolean isRival, int rate)
            throws IndexOutOfBoundsException, IllegalArgumentException {
        requireStation(from);
        requireStation(to);
        requireRange(rate, 1, 999);
        int[] rates = isRival ? rivalRates : ownRates;
        int place = STATIONS * from + to;
        int before = rates[place];
        rates[place] = rate;
        return before;
    }

    public int offer(int from, int to)
            throws IndexOutOfBoundsException, IllegalArgumentException, IllegalStateException {
        requireStation(from);
        requireStation(to);
        requireArgument(from != to);
        requireState(bills.size() < MOST_BILLS);
        int place = STATIONS * from + to;
        if (ownRates[place] > rivalRates[place]) {
            return NONE;
        }
        bills.add(new Bill(from, to, ownRates[place]));
        return bills.size() - 1;
    }

    public void load(int car, int bill) throws IndexOutOfBoundsException, IllegalStateException {
        Car c = carOf(car);
        Bill l = billNumbered(bill);
        requireState(c.train == NONE && c.bill == NONE);
        requireState(!l.wasLoaded && l.from == c.station);
        l.wasLoaded = true;
        c.bill = bill;
        c.write(LOADED, bill);
    }

    public int unload(int car) throws IndexOutOfBoundsException, IllegalStateException {
        Car c = carOf(car);
        requireState(c.train == NONE && c.bill != NONE);
        Bill l = billNumbered(c.bill);
        requireState(l.to == c.station);
        money += l.rate;
        c.write(UNLOADED, c.bill);
        c.bill = NONE;
        return l.rate;
    }

    public int sort(int station) throws IndexOutOfBoundsException {
        Row yard = stationOf(station).yard;
        sorted.empty();
        for (int goal = 0; goal < STATIONS; goal++) {
            appendByGoal(yard, goal);
        }
        int changed = 0;
        for (int i = 0; i < yard.count; i++) {
            if (yard.at(i) != sorted.at(i)) {
                changed++;
            }
        }
        yard.copy(sorted);
        return changed;
    }

    // ---- what is asked

    public int clock() {
        return now;
    }

    public int cash() {
        return money;
    }

    public int debt() {
        return owed;
    }

    public int broken() {
        return lastBroken;
    }

    public int freeTracks(int station) throws IndexOutOfBoundsException {
        return freeTracksAt(station);
    }

    public int holder(int block) throws IndexOutOfBoundsException {
        return blockOf(block).holderAt(now);
    }

    public int holderByTrains(int block) throws IndexOutOfBoundsException {
        requireBlock(block);
        for (int i = 0; i < trains.length; i++) {
            if (trains[i].holds(block, now)) {
                return i;
            }
        }
        return NONE;
    }

    public int block(int block, int what) throws IndexOutOfBoundsException {
        Block b = blockOf(block);
        requireIndex(what, 3);
        if (what == 0) {
            return b.wear;
        }
        boolean is = what == 1 ? b.isClosedAt(now) : b.flagged;
        return is ? 1 : 0;
    }

    public int train(int train, int what) throws IndexOutOfBoundsException {
        Train t = trainOf(train);
        requireIndex(what, 7);
        switch (what) {
            case 0:
                return t.state;
            case 1:
                return t.station;
            case 2:
                return t.block;
            case 3:
                return t.weight;
            case 4:
                return t.cars.count;
            case 5:
                return t.way.count - t.entered;
            default:
                return t.state == RUNNING ? t.arrival : NONE;
        }
    }

    public int barred(int train) throws IndexOutOfBoundsException {
        Train t = trainOf(train);
        return t.state == READY ? barOf(t) : NONE;
    }

    public int duty(int crew) throws IndexOutOfBoundsException {
        Crew c = crewOf(crew);
        return c.isRestingAt(now) ? NONE : c.duty;
    }

    public int carAt(int car) throws IndexOutOfBoundsException {
        Car c = carOf(car);
        return c.train == NONE ? c.station : 100 + c.train;
    }

    public int carByPapers(int car) throws IndexOutOfBoundsException {
        Row papers = carOf(car).papers;
        for (int i = papers.count - 1; i >= 0; i--) {
            int paper = papers.at(i);
            // The papers of stations and trains are told just as places are.
            if (paper < 100 * LOADED) {
                return paper;
            }
        }
        return NONE;
    }

    public int billOf(int car) throws IndexOutOfBoundsException {
        return carOf(car).bill;
    }

    public int paper(int car, int paper) throws IndexOutOfBoundsException {
        Car c = carOf(car);
        requireFromZero(paper);
        return c.papers.at(paper);
    }

    public int yardAt(int station, int place) throws IndexOutOfBoundsException {
        Station s = stationOf(station);
        requireFromZero(place);
        return s.yard.at(place);
    }

    public int homeward(int car) throws IndexOutOfBoundsException {
        Car c = carOf(car);
        if (c.train != NONE || c.station == c.home) {
            return NONE;
        }
        measureDistances(c.home);
        return firstBlockOfWay(c.station);
    }

    // ---- what is refused

    private static void requireArgument(boolean holds) {
        if (!holds) {
            throw new IllegalArgumentException("out of range");
        }
    }

    private static void requireRange(int value, int least, int most) {
        requireArgument(value >= least && value <= most);
    }

    private static void requireState(boolean holds) {
        if (!holds) {
            throw new IllegalStateException("not possible now");
        }
    }

    private static void requireIndex(int index, int count) {
        if (index < 0 || index >= count) {
            throw new IndexOutOfBoundsException("there is none of this number");
        }
    }

    private static void requireFromZero(int index) {
        if (index < 0) {
            throw new IndexOutOfBoundsException("below 0");
        }
    }

    private void requireStation(int station) {
        requireIndex(station, stations.length);
    }

    private void requireBlock(int block) {
        requireIndex(block, blocks.size());
    }

    private void requireTrain(int train) {
        requireIndex(train, trains.length);
        if (trains[train].state == NONE) {
            throw new IndexOutOfBoundsException("no such train");
        }
    }

    private Station stationOf(int station) {
        requireIndex(station, stations.length);
        return stations[station];
    }

    private Block blockOf(int block) {
        requireIndex(block, blocks.size());
        return blocks.get(block);
    }

    private Engine engineOf(int engine) {
        requireIndex(engine, engines.size());
        return engines.get(engine);
    }

    private Crew crewOf(int crew) {
        requireIndex(crew, crews.size());
        return crews.get(crew);
    }

    private Car carOf(int car) {
        requireIndex(car, cars.size());
        return cars.get(car);
    }

    private Bill billNumbered(int bill) {
        requireIndex(bill, bills.size());
        return bills.get(bill);
    }

    private Train trainOf(int train) {
        requireTrain(train);
        return trains[train];
    }

    // ---- stations and cars

    private int takenTracks(int station) {
        int taken = 0;
        for (int i = 0; i < trains.length; i++) {
            if (trains[i].takesTrackAt(station)) {
                taken++;
            }
        }
        return taken;
    }

    private int freeTracksAt(int station) {
        return stationOf(station).tracks - takenTracks(station);
    }

    private int leastFreeNumber() {
        for (int i = 0; i < trains.length; i++) {
            if (trains[i].state == NONE) {
                return i;
            }
        }
        return NONE;
    }

    private void bringToYard(int car, int station) {
        Car c = carOf(car);
        c.train = NONE;
        c.station = station;
        c.write(STATION, station);
        stationOf(station).yard.append(car);
    }

    private void bringCarsToYard(Train t, int station) {
        for (int i = 0; i < t.cars.count; i++) {
            bringToYard(t.cars.at(i), station);
        }
    }

    /** Ends a train; its engine and crew come to a station. */
    private void sendOff(Train t, int station) {
        Engine e = engineOf(t.engine);
        e.train = NONE;
        e.station = station;
        Crew c = crewOf(t.crew);
        c.train = NONE;
        c.station = station;
        t.state = NONE;
    }

    private int goalOf(int car) {
        Car c = carOf(car);
        return c.bill == NONE ? c.home : billNumbered(c.bill).to;
    }

    private void appendByGoal(Row yard, int goal) {
        for (int i = 0; i < yard.count; i++) {
            int car = yard.at(i);
            if (goalOf(car) == goal) {
                sorted.append(car);
            }
        }
    }

    // ---- ways

    /** Where the way that is drafted ends, begun at a station; NONE if it is none from there. */
    private int endOfDraft(int station) {
        int end = station;
        for (int i = 0; i < draft.count && end != NONE; i++) {
            end = blockOf(draft.at(i)).otherEnd(end);
        }
        return end;
    }

    private boolean isOpen(Block b) {
        return b.holderAt(now) == NONE && !b.isClosedAt(now);
    }

    /** Measures how far each station is from one; after as many rounds as stations nothing changes. */
    private void measureDistances(int home) {
        Arrays.fill(distances, FAR);
        if (home >= 0 && home < distances.length) {
            distances[home] = 0;
        }
        for (int round = 0; round < STATIONS; round++) {
            for (int i = 0; i < blocks.size(); i++) {
                Block b = blocks.get(i);
                if (isOpen(b)) {
                    shorten(b.first, b.second, b.minutes);
                    shorten(b.second, b.first, b.minutes);
                }
            }
        }
    }

    private void shorten(int station, int over, int minutes) {
        int distance = distanceOf(over) + minutes;
        if (station >= 0 && station < distances.length && distance < distances[station]) {
            distances[station] = distance;
        }
    }

    private int distanceOf(int station) {
        return station >= 0 && station < distances.length ? distances[station] : FAR;
    }

    private int firstBlockOfWay(int station) {
        int distance = distanceOf(station);
        if (distance >= FAR) {
            return NONE;
        }
        for (int i = 0; i < blocks.size(); i++) {
            Block b = blocks.get(i);
            int over = b.otherEnd(station);
            if (over != NONE && isOpen(b) && distanceOf(over) + b.minutes == distance) {
                return i;
            }
        }
        return NONE;
    }

    // ---- a minute

    private void arriveAll() {
        for (int i = 0; i < trains.length; i++) {
            if (trains[i].state == RUNNING && trains[i].arrival <= now) {
                arrive(trains[i]);
            }
        }
    }

    private void arrive(Train t) {
        blockOf(t.block).wear += 1 + t.cars.count;
        t.notClear(t.block, now + t.minutesToClear());
        t.block = NONE;
        t.state = t.nextBlock() == NONE ? STANDING : READY;
    }

    private void beginDay() {
        money -= owed / 200;
        for (int i = 0; i < cars.size(); i++) {
            Car c = cars.get(i);
            if (c.train == NONE && c.bill != NONE && billNumbered(c.bill).to == c.station) {
                money += 2;
            }
        }
    }

    /** Lets ready trains enter blocks, and tells how many did. */
    private int enterAll() {
        int count = 0;
        int asked = 0;
        for (int i = 0; i < trains.length; i++) {
            int number = nextToEnter(asked);
            if (number == NONE) {
                break;
            }
            asked |= 1 << number;
            Train t = trains[number];
            if (barOf(t) == 0) {
                enter(t, blockOf(t.nextBlock()), t.nextBlock());
                count++;
            }
        }
        return count;
    }

    /** The ready train of the highest rank, and of the lowest number, that was not yet asked. */
    private int nextToEnter(int asked) {
        int best = NONE;
        int bestRank = NONE;
        for (int i = 0; i < trains.length; i++) {
            boolean isAsked = (asked & (1 << i)) != 0;
            if (trains[i].state == READY && !isAsked && trains[i].rank > bestRank) {
                best = i;
                bestRank = trains[i].rank;
            }
        }
        return best;
    }

    private void enter(Train t, Block b, int number) {
        int minutes = runningMinutes(t, b);
        crewOf(t.crew).duty += minutes;
        if (t.awaitedAt == t.station) {
            t.awaited = NONE;
        }
        t.station = b.otherEnd(t.station);
        t.block = number;
        t.entered++;
        t.arrival = now + minutes;
        t.state = RUNNING;
        b.flagged = false;
        b.holder = t.number;
        b.clearAt = t.arrival + t.minutesToClear();
    }

    private void wreck(Train t, int number) {
        for (int i = 0; i < blocks.size(); i++) {
            Block b = blocks.get(i);
            if (b.holder == t.number) {
                b.holder = NONE;
            }
        }
        t.standWrecked(number);
    }

    // ---- what bars a train

    /** What bars a ready train; 0 if nothing does. */
    private int barOf(Train t) {
        int number = t.nextBlock();
        Block b = blockOf(number);
        int bar = barOfStart(t, b);
        return bar != 0 ? bar : barOfRun(t, b, number);
    }

    /** The first bar of 1 to 5: the minute, the other train and the signal. */
    private int barOfStart(Train t, Block b) {
        if (t.entered == 0 && now < t.minute) {
            return 1;
        }
        if (isWaiting(t)) {
            return 2;
        }
        if (b.holderAt(now) != NONE) {
            return 3;
        }
        if (b.isClosedAt(now)) {
            return 4;
        }
        return b.failed && !b.flagged ? 5 : 0;
    }

    /** The first bar of 6 to 10: the others, the load, the crew and the tracks. */
    private int barOfRun(Train t, Block b, int number) {
        int minutes = runningMinutes(t, b);
        if (b.isOfOthers(now, now + minutes + t.minutesToClear())) {
            return 6;
        }
        if (t.weight > t.power * (8 - 2 * b.grade)) {
            return 7;
        }
        Crew c = crewOf(t.crew);
        if ((c.known & (1 << number)) == 0) {
            return 8;
        }
        if (c.isRestingAt(now) || c.duty + minutes > MOST_DUTY) {
            return 9;
        }
        return freeTracksAt(b.otherEnd(t.station)) > 0 ? 0 : 10;
    }

    private boolean isWaiting(Train t) {
        int other = t.awaited;
        if (other < 0 || other >= trains.length || t.awaitedAt != t.station) {
            return false;
        }
        return !(trains[other].stands() && trains[other].station == t.station);
    }

    private static int runningMinutes(Train t, Block b) {
        int minutes = b.minutes;
        if (t.power > 0) {
            minutes += b.minutes * t.weight / (10 * t.power);
        }
        if (b.wear >= SLOW_WEAR) {
            minutes += b.minutes;
        }
        return b.failed ? 2 * minutes : minutes;
    }

    /** Numbers in a row, one behind the other. */
    private static final class Row {
        /** Above what 512 calls can bring into any row. */
        private static final int MOST = 1024;

        private int[] items;
        private int count = 0;

        Row(int room) {
            items = new int[room > 0 ? room : 1];
        }

        int at(int place) {
            return place >= 0 && place < count && place < items.length ? items[place] : NONE;
        }

        void append(int item) {
            if (count >= items.length && items.length < MOST) {
                items = Arrays.copyOf(items, 2 * items.length);
            }
            if (count >= 0 && count < items.length) {
                items[count] = item;
                count++;
            }
        }

        /** Takes the first such item out, so that those behind it come forward. */
        void drop(int item) {
            boolean isOut = false;
            for (int i = 0; i < count && i < items.length; i++) {
                isOut = isOut || items[i] == item;
                if (isOut && i + 1 < items.length) {
                    items[i] = items[i + 1];
                }
            }
            if (isOut) {
                count--;
            }
        }

        void copy(Row other) {
            empty();
            for (int i = 0; i < other.count; i++) {
                append(other.at(i));
            }
        }

        void empty() {
            count = 0;
        }
    }

    /** A station with its tracks, and its yard. */
    private static final class Station {
        private int tracks = 2;
        private final Row yard = new Row(4);
    }

    /** A block: until when it is held and closed is kept, so that the clock alone ends it. */
    private static final class Block {
        private final int first;
        private final int second;
        private final int minutes;
        private final int grade;
        private int wear = 0;
        private boolean failed = false;
        private boolean flagged = false;
        private int othersFrom = 0;
        private int othersTo = 0;
        private int closedUntil = 0;
        private boolean hasWrecks = false;
        private int holder = NONE;
        private int clearAt = 0;

        Block(int first, int second, int minutes, int grade) {
            this.first = first;
            this.second = second;
            this.minutes = minutes;
            this.grade = grade;
        }

        int otherEnd(int station) {
            if (station == first) {
                return second;
            }
            return station == second ? first : NONE;
        }

        int holderAt(int minute) {
            return minute < clearAt ? holder : NONE;
        }

        boolean isClosedAt(int minute) {
            return hasWrecks || minute < closedUntil;
        }

        /** Whether one of the minutes is of others; they are fewer than a day, so in two days at most. */
        boolean isOfOthers(int from, int until) {
            if (othersFrom >= othersTo) {
                return false;
            }
            int start = from % DAY;
            int end = start + until - from;
            return start < othersTo && othersFrom < end
                || start < othersTo + DAY && othersFrom + DAY < end;
        }
    }

    /** An engine, at a station if it is not with a train. */
    private static final class Engine {
        private final int power;
        private int station;
        private int train = NONE;

        Engine(int station, int power) {
            this.station = station;
            this.power = power;
        }
    }

    /** A crew; the blocks that it knows are the bits of a number. */
    private static final class Crew {
        private int station;
        private int train = NONE;
        private int known = 0;
        private int duty = 0;
        private int restEnd = 0;

        Crew(int station) {
            this.station = station;
        }

        boolean isRestingAt(int minute) {
            return minute < restEnd;
        }
    }

    /** A car, at a station if it is not with a train, with all its papers. */
    private static final class Car {
        private final int home;
        private int station;
        private int train = NONE;
        private int bill = NONE;
        private final Row papers = new Row(4);

        Car(int home) {
            this.home = home;
            this.station = home;
        }

        int weight() {
            return bill == NONE ? 2 : 5;
        }

        void write(int kind, int number) {
            papers.append(100 * kind + number);
        }
    }

    /** A load from a station to another one. */
    private static final class Bill {
        private final int from;
        private final int to;
        private final int rate;
        private boolean wasLoaded = false;

        Bill(int from, int to, int rate) {
            this.from = from;
            this.to = to;
            this.rate = rate;
        }
    }

    /** A train, used again for each one that is formed with its number. */
    private static final class Train {
        private final int number;
        private int state = NONE;
        private int engine = NONE;
        private int crew = NONE;
        private int power = 1;
        /** Where it stands, or to where it runs; NONE if it is wrecked. */
        private int station = NONE;
        private int block = NONE;
        private int arrival = 0;
        private int weight = 0;
        private final Row cars = new Row(MOST_COUPLED);
        private final Row way = new Row(MOST_LEGS);
        /** How many blocks of its way it has entered. */
        private int entered = 0;
        private int minute = 0;
        private int rank = 0;
        private int awaited = NONE;
        private int awaitedAt = NONE;
        /** The minutes at which it is, or was, clear of each block that it ran over. */
        private final int[] clearAt = new int[MOST_BLOCKS];

        Train(int number) {
            this.number = number;
        }

        void start(int engine, int crew, int power, int station) {
            this.engine = engine;
            this.crew = crew;
            this.power = power;
            this.station = station;
            state = STANDING;
            block = NONE;
            weight = 0;
            cars.empty();
            way.empty();
            entered = 0;
            awaited = NONE;
            awaitedAt = NONE;
            Arrays.fill(clearAt, 0);
        }

        void standWrecked(int number) {
            state = WRECKED;
            station = NONE;
            block = number;
            way.empty();
            entered = 0;
        }

        boolean stands() {
            return state == STANDING || state == READY;
        }

        boolean takesTrackAt(int place) {
            return state != NONE && station == place;
        }

        int nextBlock() {
            return way.at(entered);
        }

        /** With as many cars as it has now. */
        int minutesToClear() {
            return 1 + cars.count / 4;
        }

        void notClear(int place, int until) {
            if (place >= 0 && place < clearAt.length) {
                clearAt[place] = until;
            }
        }

        boolean isClearAt(int minute) {
            for (int i = 0; i < clearAt.length; i++) {
                if (minute < clearAt[i]) {
                    return false;
                }
            }
            return true;
        }

        boolean holds(int place, int minute) {
            if (state == NONE || state == WRECKED || place < 0 || place >= clearAt.length) {
                return false;
            }
            return state == RUNNING && block == place || minute < clearAt[place];
        }
    }
}
