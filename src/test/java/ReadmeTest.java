import java.nio.file.Files;
import java.nio.file.Path;

/** The example of README.md: its calls answer what stands behind them. Run in the project's folder. */
public final class ReadmeTest {
    /** The lines that tell an answer; the other lines of the example stand in the test itself. */
    private static final String[] TOLD = {
        "gateway.call(caller, 123, 39);                  // 'c'",
        "gateway.call(caller, 123, 40);                  // 's'",
        "gateway.takeBack(route);                        // 1:",
        "gateway.bill(caller);                           // 20",
    };

    public static void main(String[] args) throws Exception {
        theExampleAnswersWhatIsTold();
        theLinesStandInTheReadme();
        Check.end();
    }

    private static void theExampleAnswersWhatIsTold() {
        CallGateway gateway = new CallGateway();
        int route = gateway.addRoute(12, 2, 200, 299);
        gateway.setAnswer(route, 250);
        int plan = gateway.addPlan(3, 20, 10);
        int caller = gateway.addCaller(plan);

        gateway.begin(route, 260, 40, 2);
        Check.due('c', () -> gateway.call(caller, 123, 39));
        Check.due('s', () -> gateway.call(caller, 123, 40));
        Check.due(1, () -> gateway.takeBack(route));
        Check.due(20L, () -> gateway.bill(caller));
    }

    private static void theLinesStandInTheReadme() throws Exception {
        String readme = Files.readString(Path.of("README.md"));
        for (String line : TOLD) {
            Check.same("README.md has the line " + line, true, readme.contains(line));
        }
        for (String line : new String[] {"gateway.addRoute(12, 2, 200, 299);", "gateway.setAnswer(route, 250);",
            "gateway.addPlan(3, 20, 10);", "gateway.addCaller(plan);", "gateway.begin(route, 260, 40, 2);"}) {
            Check.same("README.md has the line " + line, true, readme.contains(line));
        }
    }
}
