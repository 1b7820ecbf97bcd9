import java.util.ArrayList;
import java.util.List;
import java.util.TreeMap;

/**
 * The document once more, told minute by minute with plain sets and lists, to be asked beside the program.
 * What is derived in the program (holders, weights, ways) is looked for here one by one.
 */
final class Model {
    private static final class B {
        int a;
        int z;
        int minutes;
        int grade;
        int wear;
        boolean bad;
        boolean flag;
        int from;
        int to;
        int repairLeft;
        boolean wrecks;
        T holder;
        int clearIn;
    }

    private static final class E {
        int power;
        int station;
        T train;
    }

    private static final class C {
        int station;
        T train;
        List<B> knows = new ArrayList<>();
        int duty;
        int restLeft;
    }

    private static final class W {
        int home;
        int station;
        T train;
        L bill;
        List<Integer> papers = new ArrayList<>();
    }

    private static final class L {
        int number;
        int from;
        int to;
        int rate;
        boolean used;
    }

    private static final class T {
        int number;
        E engine;
        C crew;
        List<W> cars = new ArrayList<>();
        List<B> way = new ArrayList<>();
        boolean first;
        int station;
        B in;
        boolean running;
        boolean wrecked;
        int left;
        int arrives;
        int minute;
        int rank;
        int waitsFor = -1;
        int waitsAt = -1;

        boolean stands() {
            return !running && !wrecked;
        }

        boolean ready() {
            return stands() && !way.isEmpty();
        }
    }

    private final int[] tracks = {2, 2, 2, 2, 2, 2, 2, 2};
    private final List<B> blocks = new ArrayList<>();
    private final List<E> engines = new ArrayList<>();
    private final List<C> crews = new ArrayList<>();
    private final List<W> cars = new ArrayList<>();
    private final List<L> bills = new ArrayList<>();
    private final TreeMap<Integer, T> trains = new TreeMap<>();
    private final List<List<W>> yards = new ArrayList<>();
    private final TreeMap<String, Integer> rates = new TreeMap<>();
    private List<B> draft = new ArrayList<>();
    private int clock;
    private int cash = 5000;
    private int debt;
    private int broken;

    Model() {
        for (int i = 0; i < 8; i++) {
            yards.add(new ArrayList<>());
        }
    }

    private static void index(boolean ok) {
        if (!ok) {
            throw new IndexOutOfBoundsException();
        }
    }

    private static void argument(boolean ok) {
        if (!ok) {
            throw new IllegalArgumentException();
        }
    }

    private static void state(boolean ok) {
        if (!ok) {
            throw new IllegalStateException();
        }
    }

    private static void stationIs(int s) {
        index(s >= 0 && s <= 7);
    }

    private static <X> X of(List<X> list, int i) {
        index(i >= 0 && i < list.size());
        return list.get(i);
    }

    private T trainIs(int i) {
        index(trains.containsKey(i));
        return trains.get(i);
    }

    private int free(int s) {
        int n = tracks[s];
        for (T t : trains.values()) {
            if (!t.wrecked && t.station == s) {
                n--;
            }
        }
        return n;
    }

    private static boolean closed(B b) {
        return b.wrecks || b.repairLeft > 0;
    }

    int tracks(int s, int n) {
        stationIs(s);
        argument(n >= 1 && n <= 4);
        state(tracks[s] - free(s) <= n);
        int old = tracks[s];
        tracks[s] = n;
        return old;
    }

    int lay(int a, int z, int minutes, int grade) {
        stationIs(a);
        stationIs(z);
        argument(a != z && minutes >= 2 && minutes <= 60 && grade >= 0 && grade <= 3);
        state(blocks.size() < 16);
        B b = new B();
        b.a = a;
        b.z = z;
        b.minutes = minutes;
        b.grade = grade;
        blocks.add(b);
        cash -= minutes * 100;
        return blocks.indexOf(b);
    }

    boolean fail(int i, boolean fails) {
        B b = of(blocks, i);
        boolean old = b.bad;
        b.bad = fails;
        b.flag = false;
        return old;
    }

    void flag(int i) {
        B b = of(blocks, i);
        state(b.bad);
        state(!b.flag);
        b.flag = true;
    }

    void hours(int i, int from, int to) {
        B b = of(blocks, i);
        argument(0 <= from && from <= 1440 && from <= to && to <= 1440);
        b.from = from;
        b.to = to;
    }

    int repair(int i) {
        B b = of(blocks, i);
        state(b.holder == null && !closed(b));
        int cost = b.wear * 5;
        cash -= cost;
        b.wear = 0;
        b.repairLeft = 30;
        return cost;
    }

    int engine(int s, int power) {
        stationIs(s);
        argument(power >= 1 && power <= 9);
        state(engines.size() < 6);
        E e = new E();
        e.power = power;
        e.station = s;
        engines.add(e);
        cash -= power * 100;
        return engines.size() - 1;
    }

    int crew(int s) {
        stationIs(s);
        state(crews.size() < 6);
        C c = new C();
        c.station = s;
        crews.add(c);
        return crews.size() - 1;
    }

    int learn(int crew, int block) {
        C c = of(crews, crew);
        B b = of(blocks, block);
        if (!c.knows.contains(b)) {
            c.knows.add(b);
        }
        return c.knows.size();
    }

    int rest(int crew) {
        C c = of(crews, crew);
        state(c.restLeft == 0);
        state(c.train == null || c.train.stands());
        c.restLeft = 480;
        return clock + 480;
    }

    int car(int home) {
        stationIs(home);
        state(cars.size() < 20);
        W w = new W();
        w.home = home;
        cars.add(w);
        cash -= 50;
        come(w, home);
        return cars.size() - 1;
    }

    private void come(W w, int s) {
        w.station = s;
        w.train = null;
        yards.get(s).add(w);
        w.papers.add(s);
    }

    int borrow(int n) {
        argument(n >= 1 && n <= 20000);
        state(debt + n <= 50000);
        cash += n;
        return debt += n;
    }

    int repay(int n) {
        argument(n >= 1 && n <= 50000);
        state(n <= debt);
        state(n <= cash);
        cash -= n;
        return debt -= n;
    }

    int form(int engine, int crew) {
        E e = of(engines, engine);
        C c = of(crews, crew);
        state(e.train == null && c.train == null && e.station == c.station && c.restLeft == 0);
        state(free(e.station) > 0);
        T t = new T();
        while (trains.containsKey(t.number)) {
            t.number++;
        }
        state(t.number < 6);
        t.engine = e;
        t.crew = c;
        t.station = e.station;
        e.train = t;
        c.train = t;
        trains.put(t.number, t);
        return t.number;
    }

    private void end(T t, int s) {
        t.engine.train = null;
        t.engine.station = s;
        t.crew.train = null;
        t.crew.station = s;
        trains.remove(t.number);
    }

    private boolean holdsAny(T t) {
        for (B b : blocks) {
            if (b.holder == t) {
                return true;
            }
        }
        return false;
    }

    int dissolve(int train) {
        T t = trainIs(train);
        state(t.stands());
        state(t.cars.isEmpty());
        state(!holdsAny(t));
        end(t, t.station);
        return t.station;
    }

    int couple(int train, int car) {
        T t = trainIs(train);
        W w = of(cars, car);
        state(t.stands());
        state(t.cars.size() < 10);
        state(yards.get(t.station).contains(w));
        yards.get(t.station).remove(w);
        t.cars.add(w);
        w.train = t;
        w.papers.add(100 + train);
        return t.cars.size();
    }

    int uncouple(int train, int car) {
        T t = trainIs(train);
        W w = of(cars, car);
        state(t.stands());
        state(t.cars.contains(w));
        t.cars.remove(w);
        come(w, t.station);
        return t.cars.size();
    }

    int leg(int block) {
        B b = of(blocks, block);
        state(draft.size() < 8);
        draft.add(b);
        return draft.size();
    }

    private static int over(B b, int s) {
        return b.a == s ? b.z : b.z == s ? b.a : -1;
    }

    int plan(int train, int minute, int rank) {
        T t = trainIs(train);
        argument(minute >= 0 && minute <= 20000 && rank >= 0 && rank <= 9);
        state(t.stands());
        state(!draft.isEmpty());
        int s = t.station;
        for (B b : draft) {
            s = over(b, s);
            state(s >= 0);
        }
        t.way = draft;
        t.first = true;
        t.minute = minute;
        t.rank = rank;
        draft = new ArrayList<>();
        return s;
    }

    void await(int train, int other, int station) {
        T t = trainIs(train);
        if (other != -1) {
            trainIs(other);
        }
        stationIs(station);
        state(train != other);
        t.waitsFor = other;
        t.waitsAt = station;
    }

    private int weight(T t) {
        int sum = 0;
        for (W w : t.cars) {
            sum += w.bill == null ? 2 : 5;
        }
        return sum;
    }

    private int time(T t, B b) {
        int n = b.minutes;
        n += b.minutes * weight(t) / (t.engine.power * 10);
        n += b.wear >= 60 ? b.minutes : 0;
        return b.bad ? n + n : n;
    }

    private boolean[] bars(T t) {
        B b = t.way.get(0);
        boolean[] is = new boolean[11];
        is[1] = t.first && clock < t.minute;
        if (t.waitsFor >= 0 && t.waitsAt == t.station) {
            T other = trains.get(t.waitsFor);
            is[2] = other == null || !other.stands() || other.station != t.station;
        }
        is[3] = b.holder != null;
        is[4] = closed(b);
        is[5] = b.bad && !b.flag;
        int time = time(t, b);
        int clear = clock + time + 1 + t.cars.size() / 4;
        for (int m = clock; m < clear; m++) {
            is[6] |= m % 1440 >= b.from && m % 1440 < b.to;
        }
        is[7] = weight(t) > t.engine.power * (8 - 2 * b.grade);
        is[8] = !t.crew.knows.contains(b);
        is[9] = t.crew.restLeft > 0 || t.crew.duty + time > 600;
        is[10] = free(over(b, t.station)) == 0;
        return is;
    }

    private static int first(boolean[] is, int from) {
        for (int i = from; i < is.length; i++) {
            if (is[i]) {
                return i;
            }
        }
        return 0;
    }

    private void enter(T t) {
        B b = t.way.remove(0);
        int time = time(t, b);
        t.crew.duty += time;
        if (t.station == t.waitsAt) {
            t.waitsFor = -1;
        }
        t.first = false;
        t.in = b;
        t.running = true;
        t.left = time;
        t.arrives = clock + time;
        t.station = over(b, t.station);
        b.flag = false;
        b.holder = t;
        b.clearIn = -1;
    }

    int run(int minutes) {
        argument(minutes >= 1 && minutes <= 300);
        state(clock + minutes <= 20000);
        int n = 0;
        for (int i = 0; i < minutes; i++) {
            n += minute();
        }
        return n;
    }

    private int minute() {
        clock++;
        for (B b : blocks) {
            b.repairLeft = Math.max(0, b.repairLeft - 1);
            if (b.holder != null && b.clearIn > 0 && --b.clearIn == 0) {
                b.holder = null;
            }
        }
        for (C c : crews) {
            if (c.restLeft > 0 && --c.restLeft == 0) {
                c.duty = 0;
            }
        }
        for (T t : trains.values()) {
            if (t.running && --t.left == 0) {
                t.running = false;
                t.in.wear += 1 + t.cars.size();
                t.in.clearIn = 1 + t.cars.size() / 4;
                t.in = null;
            }
        }
        if (clock % 1440 == 0) {
            cash -= debt / 200;
            for (int s = 0; s < 8; s++) {
                for (W w : yards.get(s)) {
                    cash += w.bill != null && w.bill.to == s ? 2 : 0;
                }
            }
        }
        int n = 0;
        for (int rank = 9; rank >= 0; rank--) {
            for (T t : trains.values()) {
                if (t.ready() && t.rank == rank && first(bars(t), 0) == 0) {
                    enter(t);
                    n++;
                }
            }
        }
        return n;
    }

    private void wreck(T t, B b) {
        for (B x : blocks) {
            if (x.holder == t) {
                x.holder = null;
            }
        }
        t.running = false;
        t.wrecked = true;
        t.way = new ArrayList<>();
        t.in = b;
    }

    boolean passSignal(int train) {
        T t = trainIs(train);
        state(t.ready());
        boolean[] is = bars(t);
        int bar = first(is, 0);
        state(bar >= 3 && bar <= 5 && first(is, 6) == 0);
        B b = t.way.get(0);
        state(b.holder != t);
        state(!b.wrecks);
        cash -= 50;
        broken = bar;
        if (b.holder == null) {
            enter(t);
            return true;
        }
        wreck(b.holder, b);
        wreck(t, b);
        b.wrecks = true;
        return false;
    }

    int clear(int block) {
        B b = of(blocks, block);
        state(b.wrecks);
        cash -= 500;
        int n = 0;
        for (int i = 0; i < 6; i++) {
            T t = trains.get(i);
            if (t != null && t.wrecked && t.in == b) {
                n++;
                for (W w : t.cars) {
                    come(w, b.a);
                }
                end(t, b.a);
            }
        }
        b.wrecks = false;
        b.repairLeft = 0;
        return n;
    }

    int[] ends(int block) {
        return new int[] {of(blocks, block).a, of(blocks, block).z};
    }

    /** From where a bill is that was not loaded; -1 if it was, or there is none. */
    int billFrom(int bill) {
        return bill >= bills.size() || bills.get(bill).used ? -1 : bills.get(bill).from;
    }

    int billTo(int bill) {
        return of(bills, bill).to;
    }

    private int rateOf(int from, int to, boolean rival) {
        return rates.getOrDefault(from + " " + to + " " + rival, 20);
    }

    int rate(int from, int to, boolean rival, int rate) {
        stationIs(from);
        stationIs(to);
        argument(rate >= 1 && rate <= 999);
        int old = rateOf(from, to, rival);
        rates.put(from + " " + to + " " + rival, rate);
        return old;
    }

    int offer(int from, int to) {
        stationIs(from);
        stationIs(to);
        argument(from != to);
        state(bills.size() < 40);
        if (rateOf(from, to, false) > rateOf(from, to, true)) {
            return -1;
        }
        L l = new L();
        l.number = bills.size();
        l.from = from;
        l.to = to;
        l.rate = rateOf(from, to, false);
        bills.add(l);
        return l.number;
    }

    void load(int car, int bill) {
        W w = of(cars, car);
        L l = of(bills, bill);
        state(w.train == null && w.bill == null && !l.used && w.station == l.from);
        l.used = true;
        w.bill = l;
        w.papers.add(200 + bill);
    }

    int unload(int car) {
        W w = of(cars, car);
        state(w.train == null && w.bill != null && w.station == w.bill.to);
        L l = w.bill;
        cash += l.rate;
        w.bill = null;
        w.papers.add(300 + l.number);
        return l.rate;
    }

    int sort(int s) {
        stationIs(s);
        List<W> old = new ArrayList<>(yards.get(s));
        yards.get(s).sort((x, y) -> goal(x) - goal(y));
        int n = 0;
        for (int i = 0; i < old.size(); i++) {
            n += old.get(i) == yards.get(s).get(i) ? 0 : 1;
        }
        return n;
    }

    private static int goal(W w) {
        return w.bill == null ? w.home : w.bill.to;
    }

    int clock() {
        return clock;
    }

    int cash() {
        return cash;
    }

    int debt() {
        return debt;
    }

    int broken() {
        return broken;
    }

    int freeTracks(int s) {
        stationIs(s);
        return free(s);
    }

    int holder(int block) {
        B b = of(blocks, block);
        return b.holder == null ? -1 : b.holder.number;
    }

    int holderByTrains(int block) {
        return holder(block);
    }

    int block(int block, int what) {
        B b = of(blocks, block);
        index(what >= 0 && what <= 2);
        return what == 0 ? b.wear : what == 1 ? (closed(b) ? 1 : 0) : b.flag ? 1 : 0;
    }

    int train(int train, int what) {
        T t = trainIs(train);
        index(what >= 0 && what <= 6);
        int state = t.wrecked ? 3 : t.running ? 2 : t.ready() ? 1 : 0;
        int block = t.in == null ? -1 : blocks.indexOf(t.in);
        int[] told = {state, t.wrecked ? -1 : t.station, block, weight(t), t.cars.size(), t.way.size(),
            t.running ? t.arrives : -1};
        return told[what];
    }

    int barred(int train) {
        T t = trainIs(train);
        return t.ready() ? first(bars(t), 0) : -1;
    }

    int duty(int crew) {
        C c = of(crews, crew);
        return c.restLeft > 0 ? -1 : c.duty;
    }

    int carAt(int car) {
        W w = of(cars, car);
        return w.train == null ? w.station : 100 + w.train.number;
    }

    int carByPapers(int car) {
        return carAt(car);
    }

    int billOf(int car) {
        W w = of(cars, car);
        return w.bill == null ? -1 : w.bill.number;
    }

    int paper(int car, int i) {
        W w = of(cars, car);
        index(i >= 0);
        return i < w.papers.size() ? w.papers.get(i) : -1;
    }

    int yardAt(int s, int place) {
        stationIs(s);
        index(place >= 0);
        return place < yards.get(s).size() ? cars.indexOf(yards.get(s).get(place)) : -1;
    }

    int homeward(int car) {
        W w = of(cars, car);
        if (w.train != null || w.station == w.home) {
            return -1;
        }
        int best = Integer.MAX_VALUE;
        int next = -1;
        for (B b : blocks) {
            int s = over(b, w.station);
            if (s >= 0 && b.holder == null && !closed(b)) {
                int sum = way(s, w.home, b.minutes, 1 << w.station, best);
                if (sum < best) {
                    best = sum;
                    next = blocks.indexOf(b);
                }
            }
        }
        return next;
    }

    private int way(int s, int home, int sum, int seen, int best) {
        if (sum >= best || (seen >> s & 1) == 1) {
            return Integer.MAX_VALUE;
        }
        if (s == home) {
            return sum;
        }
        int least = best;
        for (B b : blocks) {
            if (over(b, s) >= 0 && b.holder == null && !closed(b)) {
                least = Math.min(least, way(over(b, s), home, sum + b.minutes, seen | 1 << s, least));
            }
        }
        return least;
    }
}
