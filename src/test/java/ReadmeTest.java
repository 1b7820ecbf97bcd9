import java.io.IOException;
import java.nio.file.Files;
import java.nio.file.Path;
import java.util.ArrayList;
import java.util.List;

/** The lines of Java in README.md do what is told behind them. */
public final class ReadmeTest {
    private static final List<String> LINES = new ArrayList<>();

    private ReadmeTest() {
    }

    private static void readLines() throws IOException {
        boolean isJava = false;
        for (String line : Files.readAllLines(Path.of("README.md"))) {
            if (line.startsWith("```")) {
                isJava = line.equals("```java");
            } else if (isJava) {
                LINES.add(line);
            }
        }
    }

    /** The next line has this code; its answer is what the remark behind it begins with. */
    private static void answers(String code, Object got) {
        String line = LINES.isEmpty() ? "" : LINES.remove(0);
        Check.same("the line", line.replaceFirst(" *//.*", ""), code + ";");
        if (got != null) {
            String remark = line.replaceFirst("[^/]*// ", "");
            Check.same(line, remark.replaceFirst("[,:;].*", ""), got.toString());
        }
    }

    private static void isDone(String code) {
        answers(code, null);
    }

    private static void refuses(String code, Check.Deed deed) {
        Object got = "nothing thrown";
        try {
            deed.happens();
        } catch (RuntimeException e) {
            got = e.getClass().getSimpleName();
        }
        answers(code, got);
    }

    public static void main(String[] arguments) throws IOException {
        readLines();
        Ironbark firm = new Ironbark();
        isDone("Ironbark firm = new Ironbark()");
        int block = firm.lay(0, 1, 5, 0);
        isDone("int block = firm.lay(0, 1, 5, 0)");
        int engine = firm.engine(0, 2);
        isDone("int engine = firm.engine(0, 2)");
        int crew = firm.crew(0);
        isDone("int crew = firm.crew(0)");
        firm.learn(crew, block);
        isDone("firm.learn(crew, block)");
        int car = firm.car(0);
        isDone("int car = firm.car(0)");
        int bill = firm.offer(0, 1);
        isDone("int bill = firm.offer(0, 1)");
        firm.load(car, bill);
        isDone("firm.load(car, bill)");
        int train = firm.form(engine, crew);
        isDone("int train = firm.form(engine, crew)");
        firm.couple(train, car);
        isDone("firm.couple(train, car)");
        firm.leg(block);
        isDone("firm.leg(block)");
        firm.plan(train, 0, 5);
        isDone("firm.plan(train, 0, 5)");
        Check.same("entered", firm.run(10), 1);
        isDone("firm.run(10)");
        answers("firm.train(train, 1)", firm.train(train, 1));
        firm.uncouple(train, car);
        isDone("firm.uncouple(train, car)");
        answers("firm.unload(car)", firm.unload(car));
        answers("firm.cash()", firm.cash());
        answers("firm.cash()", firm.cash());
        refuses("firm.lay(0, 0, 5, 0)", () -> firm.lay(0, 0, 5, 0));
        refuses("firm.couple(train, 7)", () -> firm.couple(train, 7));
        refuses("firm.unload(car)", () -> firm.unload(car));
        answers("firm.cash()", firm.cash());
        Check.same("lines left", LINES.size(), 0);
        Check.end();
    }
}
