/** Promises 1 to 7: a new object, and routes. Above each test stands the sentence that it holds. */
public final class RoutesTest {
    private static final int LOWEST = Integer.MIN_VALUE;
    private static final int HIGHEST = Integer.MAX_VALUE;
    private static final int[] NO_PATHS = {
        -1, -12, 10, 20, 90, 100, 101, 110, 1000, 1001, 1011, 1101, 1110, 1200, 9990, 10000, 11111, 12345, 65548,
        HIGHEST, LOWEST};
    private static final int[] NO_ROUTES = {4, 5, 7, 8, 9, 100, 256, 65536, HIGHEST, -1, -8, -256, LOWEST};

    public static void main(String[] args) {
        newObjectHasNoRoutes();
        newObjectHasNoPlansAndNoCallers();
        newObjectHasNoCalls();
        newObjectSharesNothingWithAnother();
        addRoutePath();
        addRouteCost();
        addRouteLeast();
        addRouteGreatest();
        addRouteReturnsTheNumber();
        addRouteThrowsIfARouteHasThisPath();
        addRouteThrowsIfThereAre8();
        routeTakesOffTheLastDigits();
        routeThrowsIfItIsNoPath();
        routeThrowsIfItGoesToNone();
        bothWaysAgreeOnAllPaths();
        setContractSets();
        setContractLeast();
        setContractGreatest();
        setContractReturnsTheLeastBefore();
        setContractThrowsIfThereIsNoSuchRoute();
        setAnswerSets();
        setAnswerReturnsTheAnswerBefore();
        setAnswerThrowsIfThereIsNoSuchRoute();
        setAnswerThrowsIfOutOfRange();
        brokenReturnsWhichAnswers();
        brokenFollowsEachChange();
        brokenThrowsIfThereIsNoSuchRoute();
        Check.end();
    }

    /** Promise 1: "Creates a gateway without routes, plans and callers, at the tick 0." */
    private static void newObjectHasNoRoutes() {
        CallGateway x = new CallGateway();
        for (int path : new int[] {0, 1, 12, 9999}) {
            dueBothWays(x, path, Check.NSEE);
        }
        for (int i = -1; i < 9; i++) {
            int route = i;
            Check.due(Check.IOOBE, () -> x.hasCanary(route));
            Check.due(Check.IOOBE, () -> x.broken(route));
            Check.due(Check.IOOBE, () -> x.faults(route));
            Check.due(Check.IOOBE, () -> x.begin(route, 0, 1, 1));
        }
        Check.due(0, () -> x.addRoute(1, 1, 0, 0));
    }

    /** Promise 1, of plans and callers. */
    private static void newObjectHasNoPlansAndNoCallers() {
        CallGateway x = new CallGateway();
        for (int i = -1; i < 7; i++) {
            int number = i;
            Check.due(Check.IOOBE, () -> x.addCaller(number));
            Check.due(Check.IOOBE, () -> x.tokens(number));
            Check.due(Check.IOOBE, () -> x.bill(number));
            Check.due(Check.IOOBE, () -> x.billByLog(number));
            Check.due(Check.IOOBE, () -> x.call(number, 0, 0));
            Check.due(Check.IOOBE, () -> x.count(number, 's'));
        }
        Check.due(Check.NSEE, () -> x.greatest());
        Check.due(0, () -> x.pass(1));
        Check.due(0, () -> x.addPlan(1, 1, 0));
        Check.due(0, () -> x.addCaller(0));
    }

    /** Promise 1, of the log. */
    private static void newObjectHasNoCalls() {
        CallGateway x = new CallGateway();
        Check.due(0, () -> x.calls());
        Check.due(Check.AE, () -> x.canaryShare());
        Check.due(Check.AE, () -> x.meanCost());
        Check.due(Check.IOOBE, () -> x.isUndone(0));
        Check.due(Check.IOOBE, () -> x.isUndone(-1));
    }

    /** Promise 1, of a gateway that is created while there is another. */
    private static void newObjectSharesNothingWithAnother() {
        CallGateway first = nested();
        first.addPlan(1, 5, 3);
        first.addCaller(0);
        first.begin(0, 5, 100, 1);
        first.call(0, 12, 0);
        CallGateway second = new CallGateway();
        Check.due(Check.IOOBE, () -> second.hasCanary(0));
        Check.due(Check.IOOBE, () -> second.tokens(0));
        Check.due(0, () -> second.calls());
        Check.due(0, () -> second.addRoute(12, 1, 0, 9));
        Check.due(0, () -> second.addPlan(2, 7, 4));
        Check.due(0, () -> second.addCaller(0));
        Check.due(1, () -> second.begin(0, 5, 100, 1));
        Check.due(0, () -> second.takeBack(0));
        Check.due(false, () -> first.isUndone(0));
        Check.due(4, () -> first.tokens(0));
        Check.due(1, () -> first.takeBack(0));
    }

    /** Promise 2: "its path, 0 to 9999, without the digit 0 but for the empty path" */
    private static void addRoutePath() {
        CallGateway x = new CallGateway();
        for (int path : NO_PATHS) {
            Check.due(Check.IAE, () -> x.addRoute(path, 1, 0, 9));
        }
        int[] paths = {9999, 0, 1, 9, 11, 19, 911, 1111};
        for (int i = 0; i < 8; i++) {
            int number = i;
            Check.due(number, () -> x.addRoute(paths[number], 1, 0, 9));
        }
    }

    /** Promise 2: "its cost, 1 to 5" */
    private static void addRouteCost() {
        CallGateway x = new CallGateway();
        for (int cost : new int[] {0, -1, -5, 6, 256, 257, 65537, HIGHEST, LOWEST}) {
            Check.due(Check.IAE, () -> x.addRoute(1, cost, 0, 9));
        }
        x.addPlan(1, 100, 1);
        x.addCaller(0);
        int before = 100;
        for (int cost = 1; cost <= 5; cost++) {
            x.addRoute(cost, cost, 0, 9);
            x.call(0, cost, 0);
            before -= cost;
            int left = before;
            Check.due(left, () -> x.tokens(0));
        }
    }

    /** Promise 2: "the least answer of its contract, 0 to 999" */
    private static void addRouteLeast() {
        CallGateway x = new CallGateway();
        for (int least : new int[] {-1, -999, 1000, HIGHEST, LOWEST}) {
            Check.due(Check.IAE, () -> x.addRoute(1, 1, least, 999));
            Check.due(Check.IAE, () -> x.addRoute(1, 1, least, least));
        }
        Check.due(0, () -> x.addRoute(1, 1, 0, 999));
        Check.due(1, () -> x.addRoute(2, 1, 999, 999));
        Check.due(2, () -> x.addRoute(3, 1, 1, 999));
        Check.due('n', () -> x.broken(0));
        Check.due('s', () -> x.broken(1));
        Check.due('s', () -> x.broken(2));
        Check.due(0, () -> x.setContract(0, 0, 0));
        Check.due(999, () -> x.setContract(1, 0, 0));
        Check.due(1, () -> x.setContract(2, 0, 0));
    }

    /** Promise 2: "the greatest answer, from the least one to 999" */
    private static void addRouteGreatest() {
        CallGateway x = new CallGateway();
        for (int greatest : new int[] {8, 0, -1, 1000, HIGHEST, LOWEST}) {
            Check.due(Check.IAE, () -> x.addRoute(1, 1, 9, greatest));
        }
        Check.due(Check.IAE, () -> x.addRoute(1, 1, 999, 998));
        Check.due(Check.IAE, () -> x.addRoute(1, 1, 0, -1));
        Check.due(0, () -> x.addRoute(1, 1, 9, 9));
        Check.due(1, () -> x.addRoute(2, 1, 9, 10));
        x.begin(0, 9, 1, 1);
        x.begin(1, 10, 1, 1);
        Check.due('s', () -> x.broken(0));
        Check.due('s', () -> x.broken(1));
        x.promote(0);
        x.promote(1);
        x.begin(0, 10, 1, 1);
        x.begin(1, 11, 1, 1);
        Check.due('c', () -> x.broken(0));
        Check.due('c', () -> x.broken(1));
    }

    /** Promise 2: "Returns the number of the route.": a refused one takes no number. */
    private static void addRouteReturnsTheNumber() {
        CallGateway x = new CallGateway();
        Check.due(0, () -> x.addRoute(9999, 1, 0, 0));
        Check.due(Check.IAE, () -> x.addRoute(9999, 1, 0, 0));
        Check.due(1, () -> x.addRoute(0, 5, 999, 999));
        Check.due(Check.IAE, () -> x.addRoute(7, 6, 0, 0));
        Check.due(2, () -> x.addRoute(1, 3, 0, 999));
        dueBothWays(x, 9999, 0);
        dueBothWays(x, 0, 1);
        dueBothWays(x, 1, 2);
    }

    /** Promise 2: "Throws IllegalArgumentException if a number is out of range, or a route has this path" */
    private static void addRouteThrowsIfARouteHasThisPath() {
        CallGateway x = new CallGateway();
        Check.due(0, () -> x.addRoute(0, 1, 0, 9));
        Check.due(1, () -> x.addRoute(12, 1, 0, 9));
        Check.due(Check.IAE, () -> x.addRoute(0, 2, 0, 8));
        Check.due(Check.IAE, () -> x.addRoute(12, 2, 0, 8));
        Check.due(2, () -> x.addRoute(1, 1, 0, 9));
        Check.due(3, () -> x.addRoute(21, 1, 0, 9));
        Check.due(4, () -> x.addRoute(121, 1, 0, 9));
        Check.due(Check.IAE, () -> x.addRoute(121, 2, 0, 8));
    }

    /** Promise 2: "Throws IllegalStateException if there are 8 routes" */
    private static void addRouteThrowsIfThereAre8() {
        CallGateway x = new CallGateway();
        for (int i = 0; i < 8; i++) {
            int number = i;
            Check.due(number, () -> x.addRoute(number + 1, 1, 0, 9));
        }
        Check.due(Check.ISE, () -> x.addRoute(9, 1, 0, 9));
        Check.due(Check.ISE, () -> x.addRoute(0, 1, 0, 9));
        Check.due(Check.IAE, () -> x.addRoute(8, 1, 0, 9));
        Check.due(Check.IAE, () -> x.addRoute(10, 1, 0, 9));
        Check.due(Check.NSEE, () -> x.route(9));
        Check.due(7, () -> x.route(8));
        Check.due(Check.IOOBE, () -> x.broken(8));
    }

    /** Routes 0 to 3 with the paths 12, 1, 1234 and 34. */
    private static CallGateway nested() {
        CallGateway x = new CallGateway();
        x.addRoute(12, 1, 0, 9);
        x.addRoute(1, 1, 0, 9);
        x.addRoute(1234, 1, 0, 9);
        x.addRoute(34, 1, 0, 9);
        return x;
    }

    /** Promises 3 and 4: "found by taking off the last digits of the path, one after the other", and "Returns the same
     * route, found by comparing all routes." */
    private static void routeTakesOffTheLastDigits() {
        CallGateway x = nested();
        dueBothWays(x, 1, 1);
        dueBothWays(x, 11, 1);
        dueBothWays(x, 1111, 1);
        dueBothWays(x, 12, 0);
        dueBothWays(x, 123, 0);
        dueBothWays(x, 1233, 0);
        dueBothWays(x, 1234, 2);
        dueBothWays(x, 34, 3);
        dueBothWays(x, 3412, 3);
        x.addRoute(0, 1, 0, 9);
        dueBothWays(x, 0, 4);
        dueBothWays(x, 3, 4);
        dueBothWays(x, 9999, 4);
        dueBothWays(x, 1, 1);
    }

    /** Promises 3 and 4: "Throws IllegalArgumentException if it is no path" */
    private static void routeThrowsIfItIsNoPath() {
        CallGateway x = nested();
        for (int path : NO_PATHS) {
            dueBothWays(x, path, Check.IAE);
        }
        x.addRoute(0, 1, 0, 9);
        for (int path : NO_PATHS) {
            dueBothWays(x, path, Check.IAE);
            dueBothWays(new CallGateway(), path, Check.IAE);
        }
    }

    /** Promises 3 and 4: "Throws NoSuchElementException if it goes to none" */
    private static void routeThrowsIfItGoesToNone() {
        CallGateway x = nested();
        for (int path : new int[] {0, 2, 3, 9, 21, 31, 33, 35, 99, 234, 312, 412, 2341, 4321, 9999}) {
            dueBothWays(x, path, Check.NSEE);
        }
    }

    private static void bothWaysAgreeOnAllPaths() {
        CallGateway x = nested();
        for (int path = 1; path <= 9999; path++) {
            // A new object now and then, as none is promised to answer more than 512 calls.
            CallGateway fresh = path % 250 == 0 ? nested() : x;
            x = fresh;
            dueBothWays(fresh, path, wantedOfNested(path));
        }
    }

    private static Object wantedOfNested(int path) {
        String digits = String.valueOf(path);
        if (digits.contains("0")) {
            return Check.IAE;
        }
        if (digits.equals("1234")) {
            return 2;
        }
        if (digits.startsWith("12")) {
            return 0;
        }
        if (digits.startsWith("34")) {
            return 3;
        }
        return digits.startsWith("1") ? (Object) 1 : Check.NSEE;
    }

    private static void dueBothWays(CallGateway x, int path, Object want) {
        Check.due(want, () -> x.route(path));
        Check.due(want, () -> x.routeByComparing(path));
    }

    /** Promise 5: "Sets the contract of a route.": of this one, and both of its answers. */
    private static void setContractSets() {
        CallGateway x = nested();
        x.setAnswer(0, 5);
        x.setAnswer(1, 5);
        x.setContract(0, 5, 5);
        Check.due('n', () -> x.broken(0));
        x.setContract(0, 6, 9);
        Check.due('s', () -> x.broken(0));
        x.setContract(0, 0, 4);
        Check.due('s', () -> x.broken(0));
        Check.due('n', () -> x.broken(1));
        x.setContract(0, 4, 6);
        Check.due('n', () -> x.broken(0));
    }

    /** Promise 5: "the least answer, 0 to 999" */
    private static void setContractLeast() {
        CallGateway x = nested();
        for (int least : new int[] {-1, -999, 1000, 65536, HIGHEST, LOWEST}) {
            Check.due(Check.IAE, () -> x.setContract(0, least, 999));
            Check.due(Check.IAE, () -> x.setContract(0, least, least));
        }
        Check.due(0, () -> x.setContract(0, 999, 999));
        Check.due(999, () -> x.setContract(0, 0, 999));
        Check.due(0, () -> x.setContract(0, 0, 0));
    }

    /** Promise 5: "the greatest answer, from the least one to 999", "Throws IllegalArgumentException if an answer is
     * out of range" */
    private static void setContractGreatest() {
        CallGateway x = nested();
        for (int greatest : new int[] {4, 0, -1, 1000, 65541, HIGHEST, LOWEST}) {
            Check.due(Check.IAE, () -> x.setContract(0, 5, greatest));
        }
        Check.due(Check.IAE, () -> x.setContract(0, 999, 998));
        Check.due(Check.IAE, () -> x.setContract(0, 0, -1));
        Check.due(0, () -> x.setContract(0, 5, 5));
        Check.due(5, () -> x.setContract(0, 5, 6));
        Check.due(5, () -> x.setContract(0, 5, 999));
    }

    /** Promise 5: "Returns the least answer before." */
    private static void setContractReturnsTheLeastBefore() {
        CallGateway x = new CallGateway();
        x.addRoute(1, 1, 3, 8);
        x.addRoute(2, 1, 4, 9);
        Check.due(3, () -> x.setContract(0, 5, 7));
        Check.due(5, () -> x.setContract(0, 999, 999));
        Check.due(Check.IAE, () -> x.setContract(0, 7, 6));
        Check.due(999, () -> x.setContract(0, 0, 0));
        Check.due(0, () -> x.setContract(0, 0, 0));
        Check.due(4, () -> x.setContract(1, 1, 2));
    }

    /** Promise 5: "Throws IndexOutOfBoundsException if there is no such route" */
    private static void setContractThrowsIfThereIsNoSuchRoute() {
        CallGateway x = nested();
        for (int route : NO_ROUTES) {
            Check.due(Check.IOOBE, () -> x.setContract(route, 0, 9));
            Check.due(Check.IOOBE, () -> x.setContract(route, 9, 0));
        }
        Check.due(0, () -> x.setContract(3, 0, 9));
    }

    /** Promise 6: "Sets the answers of the stable version of a route.": of this one, and not of its canary. */
    private static void setAnswerSets() {
        CallGateway x = nested();
        x.begin(0, 5, 1, 1);
        x.setAnswer(0, 10);
        Check.due('s', () -> x.broken(0));
        Check.due('n', () -> x.broken(1));
        x.setAnswer(0, 9);
        Check.due('n', () -> x.broken(0));
        x.setAnswer(0, 999);
        Check.due(5, () -> x.promote(0));
        Check.due('n', () -> x.broken(0));
    }

    /** Promise 6: "Returns the answer before." */
    private static void setAnswerReturnsTheAnswerBefore() {
        CallGateway x = nested();
        Check.due(0, () -> x.setAnswer(0, 999));
        Check.due(999, () -> x.setAnswer(0, 7));
        Check.due(Check.IAE, () -> x.setAnswer(0, 1000));
        Check.due(7, () -> x.setAnswer(0, 0));
        Check.due(0, () -> x.setAnswer(1, 1));
        Check.due(0, () -> x.setAnswer(0, 3));
        x.begin(0, 50, 1, 1);
        Check.due(3, () -> x.setAnswer(0, 4));
        x.takeBack(0);
        Check.due(4, () -> x.setAnswer(0, 4));
    }

    /** Promise 6: "Throws IndexOutOfBoundsException if there is no such route" */
    private static void setAnswerThrowsIfThereIsNoSuchRoute() {
        CallGateway x = nested();
        for (int route : NO_ROUTES) {
            Check.due(Check.IOOBE, () -> x.setAnswer(route, 5));
            Check.due(Check.IOOBE, () -> x.setAnswer(route, 1000));
        }
        Check.due(0, () -> x.setAnswer(3, 5));
    }

    /** Promise 6: "the answer, 0 to 999", "Throws IllegalArgumentException if the answer is out of range" */
    private static void setAnswerThrowsIfOutOfRange() {
        CallGateway x = nested();
        for (int answer : new int[] {-1, -999, 1000, 65536, HIGHEST, LOWEST}) {
            Check.due(Check.IAE, () -> x.setAnswer(0, answer));
        }
        Check.due(0, () -> x.setAnswer(0, 999));
        Check.due(999, () -> x.setAnswer(0, 0));
    }

    /** Promise 7: "Returns 'n' if none does, 's' if that of the stable version does, 'c' if that of its canary does,
     * 'b' if both do." */
    private static void brokenReturnsWhichAnswers() {
        CallGateway x = new CallGateway();
        x.addRoute(1, 1, 200, 299);
        Check.due('s', () -> x.broken(0));
        x.setAnswer(0, 200);
        Check.due('n', () -> x.broken(0));
        x.begin(0, 299, 1, 1);
        Check.due('n', () -> x.broken(0));
        x.takeBack(0);
        x.begin(0, 300, 1, 1);
        Check.due('c', () -> x.broken(0));
        x.setAnswer(0, 199);
        Check.due('b', () -> x.broken(0));
        x.takeBack(0);
        Check.due('s', () -> x.broken(0));
    }

    /** Promise 7: "Returns which answers break the contract of a route.": as they are when it is asked. */
    private static void brokenFollowsEachChange() {
        CallGateway x = new CallGateway();
        x.addRoute(1, 1, 0, 299);
        x.setAnswer(0, 250);
        x.begin(0, 300, 100, 1);
        Check.due('c', () -> x.broken(0));
        x.setContract(0, 250, 300);
        Check.due('n', () -> x.broken(0));
        x.setContract(0, 251, 300);
        Check.due('s', () -> x.broken(0));
        x.setContract(0, 0, 100);
        Check.due('b', () -> x.broken(0));
        x.addPlan(1, 1, 1);
        x.addCaller(0);
        x.call(0, 1, 0);
        Check.due('s', () -> x.broken(0));
        x.setContract(0, 300, 300);
        x.begin(0, 300, 100, 1);
        x.promote(0);
        Check.due('n', () -> x.broken(0));
    }

    /** Promise 7: "Throws IndexOutOfBoundsException if there is no such route" */
    private static void brokenThrowsIfThereIsNoSuchRoute() {
        CallGateway x = nested();
        for (int route : NO_ROUTES) {
            Check.due(Check.IOOBE, () -> x.broken(route));
        }
        Check.due('n', () -> x.broken(3));
    }
}
