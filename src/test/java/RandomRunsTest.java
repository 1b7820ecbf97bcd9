import java.lang.reflect.InvocationTargetException;
import java.lang.reflect.Method;
import java.util.ArrayList;
import java.util.Arrays;
import java.util.List;
import java.util.TreeMap;

/**
 * Long runs of calls on the program and on the model, whose answers have to be the same. No object is used for more
 * calls than the document promises, so each run asks but some of what could be asked.
 */
public final class RandomRunsTest {
    private static final int RUNS = 4000;
    private static final int CALLS = 512;
    /** Calls with random numbers: the rare ones stop trains for long. */
    private static final String[] RARE = {"lay", "engine", "crew", "car", "learn", "tracks", "fail", "fail",
        "hours", "repair", "rest", "borrow", "repay", "dissolve", "rate", "sort", "load", "clear", "await"};
    private static final String[] OFTEN = {"flag", "form", "uncouple", "passSignal", "offer",
        "run", "run", "run", "run", "run", "run"};
    private static final String[] ASKED = {"clock", "cash", "debt", "broken", "freeTracks", "holder", "holderByTrains",
        "block", "block", "train", "train", "train", "train", "barred", "barred", "duty", "carAt", "carByPapers", "billOf",
        "paper", "yardAt", "yardAt", "homeward", "homeward"};
    /** How many questions there are behind each deed of a run; with none, all are at its end. */
    private static final int[] QUESTIONS = {0, 0, 1, 2, 4};

    private final TreeMap<String, Method> program = methods(Ironbark.class);
    private final TreeMap<String, Method> model = methods(Model.class);
    private final TreeMap<String, Integer> answered = new TreeMap<>();
    private long seed;
    private Ironbark x;
    private Model y;
    private int blocksLaid;
    private int draftedFrom;
    private int carsMade;
    private int called;
    private final List<String> history = new ArrayList<>();

    private RandomRunsTest(long seed) {
        this.seed = seed;
    }

    private static TreeMap<String, Method> methods(Class<?> of) {
        TreeMap<String, Method> all = new TreeMap<>();
        for (Method m : of.getDeclaredMethods()) {
            m.setAccessible(true);
            all.put(m.getName(), m);
        }
        return all;
    }

    private int below(int n) {
        seed = seed * 6364136223846793005L + 1442695040888963407L;
        return (int) ((seed >>> 33) % n);
    }

    private static Object answer(Method m, Object of, Object[] arguments) {
        try {
            Object got = m.invoke(of, arguments);
            return got == null ? "nothing" : got;
        } catch (InvocationTargetException e) {
            Throwable cause = e.getCause();
            boolean isMachine = of instanceof Ironbark && !Check.isThrownByProgram(cause);
            return cause.getClass().getName() + (isMachine ? " by the machine" : "");
        } catch (IllegalAccessException e) {
            return "not allowed";
        }
    }

    /** Whether both answer the same; what calls behind the last one that is promised answer is free. */
    private boolean ask(String name, Object... arguments) {
        if (called >= CALLS) {
            return true;
        }
        called++;
        Object due = answer(model.get(name), y, arguments);
        Object got = answer(program.get(name), x, arguments);
        if (!due.equals(got)) {
            for (String h : history) {
                System.out.println("    " + h);
            }
            Check.same(name + Arrays.toString(arguments), got, due);
            return false;
        }
        boolean isEach = name.equals("barred") || name.equals("passSignal") || name.equals("run");
        String kind = isEach || due instanceof String || due.equals(-1) ? due.toString() : "told";
        answered.merge(name + " " + kind, 1, Integer::sum);
        return true;
    }

    private Object[] argumentsFor(String name) {
        Class<?>[] kinds = program.get(name).getParameterTypes();
        Object[] arguments = new Object[kinds.length];
        for (int i = 0; i < kinds.length; i++) {
            arguments[i] = kinds[i] == boolean.class ? (Object) (below(2) == 0) : (Object) number(name, i);
        }
        return arguments;
    }

    private int number(String name, int place) {
        if (below(60) == 0) {
            int[] odd = {-2, -1, 0, 8, 16, 21, 1000, 20001, 50001, Integer.MAX_VALUE, Integer.MIN_VALUE};
            return odd[below(odd.length)];
        }
        switch (name + place) {
            case "lay2":
                return 2 + below(below(4) == 0 ? 59 : 6);
            case "lay3":
                return below(4);
            case "tracks1":
                return 1 + below(4);
            case "hours1":
                return below(2) == 0 ? below(1441) : y.clock() % 1440;
            case "hours2":
                return below(2) == 0 ? below(1441) : Math.min(1440, y.clock() % 1440 + below(60));
            case "engine1":
                return 1 + below(9);
            case "borrow0":
                return 1 + below(below(3) == 0 ? 20000 : 600);
            case "repay0":
                return 1 + below(below(3) == 0 ? 50000 : 600);
            case "plan1":
                return below(4) == 0 ? below(20001) : y.clock() + below(6);
            case "plan2":
                return below(4);
            case "run0":
                return 1 + below(below(12) == 0 ? 300 : 16);
            case "rate3":
                return 18 + below(5);
            default:
                return numberOf(name, place);
        }
    }

    /** A number of a station, block, engine, crew, train, car or bill, mostly one that there is. */
    private int numberOf(String name, int place) {
        switch (name + place) {
            case "couple1":
            case "uncouple1":
            case "load0":
            case "unload0":
                return below(carsMade + 1);
            case "load1":
                return below(20);
            case "learn1":
            case "fail0":
            case "flag0":
            case "hours0":
            case "repair0":
            case "clear0":
                return below(blocksLaid + 1);
            case "dissolve0":
            case "couple0":
            case "uncouple0":
            case "await0":
            case "passSignal0":
            case "train0":
            case "barred0":
                return below(5);
            case "await1":
                return below(6) - 1;
            default:
                return numberAsked(name, place);
        }
    }

    /** A number for a question, mostly one of what there is. */
    private int numberAsked(String name, int place) {
        switch (name + place) {
            case "holder0":
            case "holderByTrains0":
            case "block0":
                return below(blocksLaid + 1);
            case "carAt0":
            case "carByPapers0":
            case "billOf0":
            case "paper0":
            case "homeward0":
                return below(carsMade + 1);
            case "block1":
                return below(3);
            case "train1":
                return below(7);
            case "duty0":
            case "yardAt1":
                return below(6);
            case "paper1":
                return below(below(4) == 0 ? 40 : 6);
            default:
                return below(name.matches("learn|rest|form") ? 6 : 4);
        }
    }

    /** A network that trains can run in, with most that they need. */
    private boolean build() {
        blocksLaid = 2 + below(8);
        carsMade = below(15);
        boolean alike = true;
        for (int i = 0; alike && i < blocksLaid; i++) {
            int first = i < 3 ? i : below(4);
            int second = i < 3 ? i + 1 : (first + 1 + below(3)) % 4;
            alike = call("lay", first, second, 2 + below(below(3) == 0 ? 59 : 6), below(5) == 0 ? 3 : below(2));
        }
        for (int i = 0; alike && i < 2 + below(5); i++) {
            int station = below(4);
            alike = call("engine", station, 1 + below(9)) && call("crew", station);
            for (int block = 0; alike && block < blocksLaid; block++) {
                alike = below(60) == 0 || call("learn", i, block);
            }
            if (alike && below(4) != 0) {
                alike = call("form", i, i);
            }
        }
        for (int i = 0; alike && i < carsMade; i++) {
            alike = call("car", below(4));
        }
        return alike;
    }

    private int told(String name, Object... arguments) {
        Object got = answer(model.get(name), y, arguments);
        return got instanceof Integer ? (Integer) got : -9;
    }

    /** A train that stands at a station, from a random one on; NONE if there is none. */
    private int trainThatStandsAt(int station) {
        int from = below(6);
        for (int i = 0; i < 6; i++) {
            int train = (from + i) % 6;
            int state = told("train", train, 0);
            boolean stands = state == Ironbark.STANDING || state == Ironbark.READY;
            if (stands && (station < 0 || told("train", train, 1) == station)) {
                return train;
            }
        }
        return Ironbark.NONE;
    }

    /** Gives a train a way from where it stands; what is drafted from elsewhere waits for a train there. */
    private boolean planSomewhere() {
        int train = trainThatStandsAt(draftedFrom);
        if (train < 0 || told("train", train, 0) == Ironbark.READY && below(3) != 0) {
            return true;
        }
        int at = told("train", train, 1);
        boolean alike = true;
        boolean isNew = draftedFrom < 0;
        draftedFrom = at;
        for (int tries = 2 + below(24); alike && isNew && tries >= 0; tries--) {
            int block = below(blocksLaid);
            int[] ends = y.ends(block);
            if (ends[0] == at || ends[1] == at || below(3000) == 0) {
                alike = call("leg", block);
                at = ends[0] + ends[1] - at;
            }
        }
        if (below(10) == 0) {
            return alike;
        }
        int minute = below(60) == 0 ? below(20001) : y.clock() + below(3);
        alike = alike && call("plan", train, minute, below(10));
        if (told("train", train, 0) == Ironbark.READY) {
            draftedFrom = Ironbark.NONE;
        }
        return alike;
    }

    /** Couples or uncouples a car at the station of a train. */
    private boolean shunt() {
        int train = trainThatStandsAt(Ironbark.NONE);
        if (train >= 0 && below(2) == 0) {
            return call("couple", train, told("yardAt", told("train", train, 1), below(3)));
        }
        int car = below(carsMade + 1);
        int at = told("carAt", car);
        return at >= 100 ? call("uncouple", at - 100, car) : call("unload", car);
    }

    /** Brings a load to its goal, or loads a car with a bill from where it stands, or passes a signal, or clears wrecks. */
    private boolean tryDeeds() {
        int car = below(carsMade + 1);
        int at = told("carAt", car);
        int bill = told("billOf", car);
        if (bill >= 0 && y.billTo(bill) == at) {
            return call("unload", car);
        }
        if (at >= 100 && bill >= 0 && y.billTo(bill) == told("train", at - 100, 1)) {
            return call("uncouple", at - 100, car);
        }
        if (at >= 0 && at < 100 && below(2) == 0) {
            boolean alike = call("offer", at, (at + 1 + below(3)) % 4);
            for (int i = 0; alike && i < 40; i++) {
                alike = told("billOf", car) >= 0 || y.billFrom(i) != at || call("load", car, i);
            }
            return alike;
        }
        int train = below(6);
        int bar = told("barred", train);
        if (bar >= 3 && bar <= 5 && below(2) == 0) {
            return call("passSignal", train);
        }
        int block = told("train", train, 0) == Ironbark.WRECKED ? told("train", train, 2) : -1;
        return block < 0 || below(3) != 0 || call("clear", block);
    }

    private boolean call(String name, Object... arguments) {
        history.add(name + Arrays.toString(arguments));
        return ask(name, arguments);
    }

    /** Asks so much, and looks whether the answers are alike. */
    private boolean areAskedAlike(int questions) {
        boolean alike = true;
        for (int i = 0; alike && i < questions; i++) {
            String name = ASKED[below(ASKED.length)];
            alike = ask(name, argumentsFor(name));
        }
        return alike;
    }

    private boolean isDoneAlike() {
        switch (below(8)) {
            case 0:
                return planSomewhere();
            case 1:
                return shunt();
            case 2:
                return tryDeeds();
            default:
                String[] names = below(5) == 0 ? RARE : OFTEN;
                String name = names[below(names.length)];
                return call(name, argumentsFor(name));
        }
    }

    private boolean wholeRun() {
        x = new Ironbark();
        y = new Model();
        called = 0;
        history.clear();
        draftedFrom = Ironbark.NONE;
        int deedsEnd = CALLS - below(150);
        int questions = QUESTIONS[below(QUESTIONS.length)];
        boolean alike = build();
        while (alike && called < deedsEnd) {
            alike = isDoneAlike() && areAskedAlike(questions);
        }
        return alike && areAskedAlike(CALLS - called);
    }

    public static void main(String[] arguments) {
        long seed = arguments.length > 1 ? Long.parseLong(arguments[1]) : 20261119L;
        int runs = arguments.length > 2 ? Integer.parseInt(arguments[2]) : RUNS;
        RandomRunsTest test = new RandomRunsTest(seed);
        int alike = 0;
        while (alike < runs && test.wholeRun()) {
            alike++;
        }
        Check.same("runs alike", alike, runs);
        if (arguments.length > 3) {
            test.answered.forEach((name, n) -> System.out.println("  " + name + ": " + n));
        }
        Check.end();
    }
}
