import java.util.ArrayList;
import java.util.List;

/** What a firm shows: by what is asked, and, of what can't be asked, by what later calls do. */
final class Shown {
    interface Ask {
        Object answer();
    }

    interface Deed {
        void happens();
    }

    /** So many ways to look; each one is for a firm of its own, as it has but 512 calls. */
    static final int WAYS = 5;

    private final Ironbark x;
    private final List<String> told = new ArrayList<>();

    private Shown(Ironbark x) {
        this.x = x;
    }

    static List<String> by(int way, Ironbark x) {
        Shown shown = new Shown(x);
        switch (way) {
            case 0 -> shown.askAll();
            case 1 -> shown.goOn();
            case 2 -> shown.planAndTeach();
            case 3 -> shown.rates();
            default -> shown.buyAndLoad();
        }
        return shown.told;
    }

    /** The first line in which two firms differ; empty if there is none. */
    static String difference(List<String> one, List<String> other) {
        for (int i = 0; i < Math.max(one.size(), other.size()); i++) {
            String a = i < one.size() ? one.get(i) : "nothing";
            String b = i < other.size() ? other.get(i) : "nothing";
            if (!a.equals(b)) {
                return a + " in place of " + b;
            }
        }
        return "";
    }

    /** Notes an answer; tells whether it was one, and no exception. */
    private boolean note(String what, Ask ask) {
        try {
            told.add(what + " " + ask.answer());
            return true;
        } catch (RuntimeException e) {
            told.add(what + " " + e.getClass().getName());
            return false;
        }
    }

    private boolean noteDeed(String what, Deed deed) {
        return note(what, () -> {
            deed.happens();
            return "done";
        });
    }

    private static int numberOf(Ask ask) {
        try {
            return (Integer) ask.answer();
        } catch (RuntimeException e) {
            return Ironbark.NONE;
        }
    }

    private void accounts() {
        note("clock", x::clock);
        note("cash", x::cash);
        note("debt", x::debt);
        note("broken", x::broken);
    }

    private void askAll() {
        accounts();
        for (int s = 0; s < 8; s++) {
            int station = s;
            note("free tracks " + s, () -> x.freeTracks(station));
            int cars = 0;
            for (int p = 0; p <= cars; p++) {
                int place = p;
                note("yard " + s + " " + p, () -> x.yardAt(station, place));
                cars += numberOf(() -> x.yardAt(station, place)) >= 0 ? 1 : 0;
            }
        }
        for (int b = 0; block(b); b++) {
            int block = b;
            note("by trains " + b, () -> x.holderByTrains(block));
            note("closed " + b, () -> x.block(block, 1));
            note("flagged " + b, () -> x.block(block, 2));
        }
        for (int t = 0; t < 6; t++) {
            int train = t;
            if (train(t)) {
                note("weight " + t, () -> x.train(train, 3));
                note("cars " + t, () -> x.train(train, 4));
                note("barred " + t, () -> x.barred(train));
            }
        }
        crews();
        int car = 0;
        while (car(car)) {
            car++;
        }
    }

    private boolean block(int block) {
        return note("holder " + block, () -> x.holder(block)) && note("wear " + block, () -> x.block(block, 0));
    }

    private boolean train(int train) {
        boolean is = note("train " + train, () -> x.train(train, 0));
        for (int i : is ? new int[] {1, 2, 5, 6} : new int[0]) {
            note("train " + train + " " + i, () -> x.train(train, i));
        }
        return is;
    }

    private void crews() {
        int crew = 0;
        boolean is = true;
        while (is) {
            int c = crew;
            is = note("duty " + c, () -> x.duty(c));
            crew++;
        }
    }

    private boolean car(int car) {
        boolean is = note("car " + car, () -> x.carAt(car)) && note("by papers", () -> x.carByPapers(car))
            && note("bill", () -> x.billOf(car)) && note("homeward", () -> x.homeward(car));
        int papers = is ? 1 : 0;
        for (int p = 0; p < papers; p++) {
            int paper = p;
            note("paper " + p, () -> x.paper(car, paper));
            papers += papers < 6 && numberOf(() -> x.paper(car, paper)) >= 0 ? 1 : 0;
        }
        return is;
    }

    private void goOn() {
        for (int minutes : new int[] {1, 30, 60, 300}) {
            note("run " + minutes, () -> x.run(minutes));
            accounts();
            int block = 0;
            while (block(block)) {
                block++;
            }
            for (int t = 0; t < 6; t++) {
                train(t);
            }
            crews();
        }
    }

    private void planAndTeach() {
        for (int t = 0; t < 6; t++) {
            int train = t;
            note("plan " + t, () -> x.plan(train, 0, 9));
            note("leg", () -> x.leg(0));
        }
        note("enter", () -> x.run(1));
        boolean isCrew = true;
        for (int c = 0; isCrew; c++) {
            int crew = c;
            isCrew = note("rest " + c, () -> x.rest(crew));
            boolean isBlock = true;
            for (int b = 0; isBlock; b++) {
                int block = b;
                isBlock = note("learn " + c + " " + b, () -> x.learn(crew, block));
            }
            isCrew = isCrew || numberOf(() -> x.duty(crew)) >= 0;
        }
        for (int b = 0; b < 16; b++) {
            int block = b;
            note("clear " + b, () -> x.clear(block));
        }
    }

    private void rates() {
        for (int i = 0; i < 128; i++) {
            int pair = i % 64;
            boolean isRival = i >= 64;
            note("rate " + i, () -> x.rate(pair / 8, pair % 8, isRival, 20));
        }
        for (int s = 0; s < 8; s++) {
            int station = s;
            note("tracks " + s, () -> x.tracks(station, 4));
            note("sort " + s, () -> x.sort(station));
        }
    }

    private void buyAndLoad() {
        note("borrow", () -> x.borrow(1));
        note("repay", () -> x.repay(2));
        for (int b = 0; b < 16; b++) {
            int block = b;
            note("repair " + b, () -> x.repair(block));
            note("mend " + b, () -> x.fail(block, false));
        }
        for (int t = 0; t < 6; t++) {
            int train = t;
            note("pass " + t, () -> x.passSignal(train));
            note("form " + t, () -> x.form(train, train));
        }
        for (int bill = 0; bill < 40; bill++) {
            for (int car = 0; car < 4; car++) {
                int l = bill;
                int c = car;
                noteDeed("load " + c + " " + l, () -> x.load(c, l));
            }
        }
        note("unload", () -> x.unload(0));
        note("offer", () -> x.offer(0, 1));
        note("lay", () -> x.lay(0, 1, 2, 0));
        note("engine", () -> x.engine(0, 1));
        note("crew", () -> x.crew(0));
        note("car", () -> x.car(0));
        note("cash", x::cash);
    }
}
