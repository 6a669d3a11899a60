/** Promises 1 to 7: a new object, and routes. */
public final class RoutesTest {
    private static final int[] NO_PATHS = {
        -1, 10, 20, 90, 100, 101, 110, 1000, 1001, 1011, 1101, 1110, 10000, 11111,
        Integer.MAX_VALUE, Integer.MIN_VALUE};

    public static void main(String[] args) {
        newObject();
        addRouteNumbersFromZero();
        addRouteRefusesNumbersOutOfRange();
        addRouteRefusesThePathOfAnotherRoute();
        addRouteEndsAtEight();
        routeGoesToTheLongestBeginning();
        routeNeedsAWholeBeginning();
        routeRefusesWhatIsNoPath();
        bothWaysAgreeOnAllPaths();
        setContract();
        setAnswer();
        broken();
        Check.end();
    }

    private static void newObject() {
        CallGateway x = new CallGateway();
        Check.due(0, () -> x.calls());
        Check.due(Check.NSEE, () -> x.greatest());
        Check.due(Check.AE, () -> x.canaryShare());
        Check.due(Check.AE, () -> x.meanCost());
        Check.due(Check.NSEE, () -> x.route(0));
        Check.due(Check.NSEE, () -> x.routeByComparing(1));
        Check.due(Check.IOOBE, () -> x.hasCanary(0));
        Check.due(Check.IOOBE, () -> x.addCaller(0));
        Check.due(Check.IOOBE, () -> x.tokens(0));
        Check.due(Check.IOOBE, () -> x.isUndone(0));
        Check.due(0, () -> x.pass(1));
    }

    private static void addRouteNumbersFromZero() {
        CallGateway x = new CallGateway();
        Check.due(0, () -> x.addRoute(9999, 1, 0, 0));
        Check.due(1, () -> x.addRoute(0, 5, 999, 999));
        Check.due(2, () -> x.addRoute(1, 3, 0, 999));
        Check.due('n', () -> x.broken(0));
        Check.due('s', () -> x.broken(1));
        Check.due(999, () -> x.setContract(1, 0, 0));
        Check.due('n', () -> x.broken(1));
        Check.due(false, () -> x.hasCanary(2));
        Check.due(0, () -> x.setAnswer(2, 5));
    }

    private static void addRouteRefusesNumbersOutOfRange() {
        CallGateway x = new CallGateway();
        for (int path : NO_PATHS) {
            Check.due(Check.IAE, () -> x.addRoute(path, 1, 0, 9));
        }
        Check.due(Check.IAE, () -> x.addRoute(1, 0, 0, 9));
        Check.due(Check.IAE, () -> x.addRoute(1, 6, 0, 9));
        Check.due(Check.IAE, () -> x.addRoute(1, Integer.MIN_VALUE, 0, 9));
        Check.due(Check.IAE, () -> x.addRoute(1, 1, -1, 9));
        Check.due(Check.IAE, () -> x.addRoute(1, 1, 1000, 1000));
        Check.due(Check.IAE, () -> x.addRoute(1, 1, 0, 1000));
        Check.due(Check.IAE, () -> x.addRoute(1, 1, 9, 8));
        Check.due(Check.IAE, () -> x.addRoute(1, 1, 0, -1));
        Check.due(Check.IAE, () -> x.addRoute(1, 1, 0, Integer.MAX_VALUE));
        Check.due(0, () -> x.addRoute(1, 1, 9, 9));
    }

    private static void addRouteRefusesThePathOfAnotherRoute() {
        CallGateway x = new CallGateway();
        Check.due(0, () -> x.addRoute(0, 1, 0, 9));
        Check.due(1, () -> x.addRoute(12, 1, 0, 9));
        Check.due(Check.IAE, () -> x.addRoute(0, 2, 0, 8));
        Check.due(Check.IAE, () -> x.addRoute(12, 2, 0, 8));
        Check.due(2, () -> x.addRoute(1, 1, 0, 9));
    }

    private static void addRouteEndsAtEight() {
        CallGateway x = new CallGateway();
        for (int i = 0; i < 8; i++) {
            int number = i;
            Check.due(number, () -> x.addRoute(number + 1, 1, 0, 9));
        }
        Check.due(Check.ISE, () -> x.addRoute(9, 1, 0, 9));
        Check.due(Check.IAE, () -> x.addRoute(8, 1, 0, 9));
        Check.due(Check.IAE, () -> x.addRoute(10, 1, 0, 9));
        Check.due(Check.NSEE, () -> x.route(9));
        Check.due(7, () -> x.route(8));
        Check.due(Check.IOOBE, () -> x.broken(8));
    }

    private static CallGateway nested() {
        CallGateway x = new CallGateway();
        x.addRoute(12, 1, 0, 9);
        x.addRoute(1, 1, 0, 9);
        x.addRoute(1234, 1, 0, 9);
        x.addRoute(34, 1, 0, 9);
        return x;
    }

    private static void routeGoesToTheLongestBeginning() {
        CallGateway x = nested();
        dueBothWays(x, 1, 1);
        dueBothWays(x, 11, 1);
        dueBothWays(x, 1111, 1);
        dueBothWays(x, 12, 0);
        dueBothWays(x, 123, 0);
        dueBothWays(x, 1233, 0);
        dueBothWays(x, 1234, 2);
        dueBothWays(x, 34, 3);
        dueBothWays(x, 3412, 3);
    }

    private static void routeNeedsAWholeBeginning() {
        CallGateway x = nested();
        dueBothWays(x, 0, Check.NSEE);
        dueBothWays(x, 3, Check.NSEE);
        dueBothWays(x, 2, Check.NSEE);
        dueBothWays(x, 234, Check.NSEE);
        dueBothWays(x, 9999, Check.NSEE);
        Check.due(4, () -> x.addRoute(0, 1, 0, 9));
        dueBothWays(x, 0, 4);
        dueBothWays(x, 3, 4);
        dueBothWays(x, 9999, 4);
        dueBothWays(x, 1, 1);
    }

    private static void routeRefusesWhatIsNoPath() {
        CallGateway x = nested();
        x.addRoute(0, 1, 0, 9);
        for (int path : NO_PATHS) {
            dueBothWays(x, path, Check.IAE);
        }
    }

    private static void bothWaysAgreeOnAllPaths() {
        CallGateway x = nested();
        for (int path = 1; path <= 9999; path++) {
            // A new object now and then, as none is promised to answer more than 512 calls.
            CallGateway fresh = path % 250 == 0 ? nested() : x;
            x = fresh;
            int asked = path;
            Object want = wantedOfNested(path);
            dueBothWays(fresh, asked, want);
        }
    }

    private static Object wantedOfNested(int path) {
        String digits = String.valueOf(path);
        if (digits.contains("0")) {
            return Check.IAE;
        }
        if (digits.equals("1234")) {
            return 2;
        }
        if (digits.startsWith("12")) {
            return 0;
        }
        if (digits.startsWith("34")) {
            return 3;
        }
        return digits.startsWith("1") ? (Object) 1 : Check.NSEE;
    }

    private static void dueBothWays(CallGateway x, int path, Object want) {
        Check.due(want, () -> x.route(path));
        Check.due(want, () -> x.routeByComparing(path));
    }

    private static void setContract() {
        CallGateway x = nested();
        Check.due(0, () -> x.setContract(0, 5, 7));
        Check.due(5, () -> x.setContract(0, 999, 999));
        Check.due(999, () -> x.setContract(0, 0, 0));
        Check.due(0, () -> x.setContract(1, 1, 2));
        Check.due(Check.IAE, () -> x.setContract(0, -1, 5));
        Check.due(Check.IAE, () -> x.setContract(0, 5, 4));
        Check.due(Check.IAE, () -> x.setContract(0, 0, 1000));
        Check.due(Check.IAE, () -> x.setContract(0, 1000, 1000));
        Check.due(Check.IOOBE, () -> x.setContract(4, 0, 9));
        Check.due(Check.IOOBE, () -> x.setContract(-1, 0, 9));
        Check.due(Check.IOOBE, () -> x.setContract(8, 9, 0));
        Check.due(Check.IOOBE, () -> x.setContract(Integer.MAX_VALUE, 9, 0));
        Check.due(0, () -> x.setContract(0, 0, 0));
    }

    private static void setAnswer() {
        CallGateway x = nested();
        Check.due(0, () -> x.setAnswer(0, 999));
        Check.due(999, () -> x.setAnswer(0, 7));
        Check.due(7, () -> x.setAnswer(0, 0));
        Check.due(0, () -> x.setAnswer(1, 1));
        Check.due(Check.IAE, () -> x.setAnswer(0, -1));
        Check.due(Check.IAE, () -> x.setAnswer(0, 1000));
        Check.due(Check.IOOBE, () -> x.setAnswer(4, 5));
        Check.due(Check.IOOBE, () -> x.setAnswer(-1, 1000));
        Check.due(Check.IOOBE, () -> x.setAnswer(8, 5));
        Check.due(0, () -> x.setAnswer(0, 3));
        x.begin(0, 50, 1, 1);
        Check.due(3, () -> x.setAnswer(0, 4));
    }

    private static void broken() {
        CallGateway x = new CallGateway();
        x.addRoute(1, 1, 200, 299);
        Check.due('s', () -> x.broken(0));
        x.setAnswer(0, 199);
        Check.due('s', () -> x.broken(0));
        x.setAnswer(0, 200);
        Check.due('n', () -> x.broken(0));
        x.setAnswer(0, 299);
        Check.due('n', () -> x.broken(0));
        x.setAnswer(0, 300);
        Check.due('s', () -> x.broken(0));
        x.begin(0, 300, 1, 1);
        Check.due('b', () -> x.broken(0));
        x.setAnswer(0, 250);
        Check.due('c', () -> x.broken(0));
        x.setContract(0, 250, 300);
        Check.due('n', () -> x.broken(0));
        x.setContract(0, 251, 300);
        Check.due('s', () -> x.broken(0));
        x.setContract(0, 0, 100);
        Check.due('b', () -> x.broken(0));
        x.takeBack(0);
        Check.due('s', () -> x.broken(0));
        Check.due(Check.IOOBE, () -> x.broken(1));
        Check.due(Check.IOOBE, () -> x.broken(-1));
        Check.due(Check.IOOBE, () -> x.broken(8));
        Check.due(Check.IOOBE, () -> x.broken(Integer.MIN_VALUE));
    }
}
