/** Promises 8 to 13: canaries. Above each test stands the sentence that it holds. */
public final class CanariesTest {
    private static final int LOWEST = Integer.MIN_VALUE;
    private static final int HIGHEST = Integer.MAX_VALUE;
    private static final int[] NO_ROUTES = {2, 3, 7, 8, 9, 256, 65536, HIGHEST, -1, -2, -8, LOWEST};

    public static void main(String[] args) {
        beginWithoutFaults();
        beginAnswer();
        beginShare();
        beginLimit();
        beginReturnsTheNumberOfCanaries();
        beginCountsUpToEight();
        beginThrowsIfThereIsNoSuchRoute();
        beginThrowsIfOutOfRange();
        beginThrowsIfTheRouteHasACanary();
        setShareSets();
        setShareReturnsTheShareBefore();
        setShareThrowsIfThereIsNoSuchRoute();
        setShareThrowsIfOutOfRange();
        setShareThrowsIfTheRouteHasNoCanary();
        promoteMakesACanaryStable();
        promoteReturnsTheAnswerThen();
        promoteThrowsIfThereIsNoSuchRoute();
        promoteThrowsIfTheRouteHasNoCanary();
        promotedCallsStay();
        takeBackTakesACanaryBack();
        takeBackReturnsTheNumberOfUndoneCalls();
        takeBackThrowsIfThereIsNoSuchRoute();
        takeBackThrowsIfTheRouteHasNoCanary();
        takeBackUndoesTheCallsOfThatCanaryAlone();
        takeBackLeavesAllOtherKinds();
        takeBackReachesAllCallers();
        takeBackGivesToTheBurstThen();
        takeBackTakesOffWhatWasAddedThen();
        hasCanaryReturnsWhetherItHas();
        hasCanaryThrowsIfThereIsNoSuchRoute();
        faultsReturnsTheNumberOfFaults();
        faultsThrowsIfThereIsNoSuchRoute();
        faultsThrowsIfTheRouteHasNoCanary();
        faultsReachTheLimit();
        Check.end();
    }

    /** Routes 0 (path 1, cost 2), 1 (path 2, cost 3); plans 0 (5, 20, 10), 1 (1, 4, 7); callers 0 and 1 of plan 0. */
    private static CallGateway gateway() {
        CallGateway x = new CallGateway();
        x.addRoute(1, 2, 100, 199);
        x.addRoute(2, 3, 0, 999);
        x.addPlan(5, 20, 10);
        x.addPlan(1, 4, 7);
        x.addCaller(0);
        x.addCaller(0);
        return x;
    }

    /** Promise 8: "Lets a canary begin, without faults.": the first one, and those after one with faults. */
    private static void beginWithoutFaults() {
        CallGateway x = gateway();
        x.begin(0, 5, 100, 3);
        Check.due(0, () -> x.faults(0));
        x.call(0, 1, 0);
        Check.due(1, () -> x.faults(0));
        x.takeBack(0);
        x.begin(0, 5, 100, 3);
        Check.due(0, () -> x.faults(0));
        x.call(0, 1, 0);
        x.promote(0);
        x.begin(0, 5, 100, 2);
        Check.due(0, () -> x.faults(0));
        x.call(0, 1, 0);
        x.call(0, 1, 0);
        x.begin(0, 5, 100, 2);
        Check.due(0, () -> x.faults(0));
    }

    /** Promise 8: "its answers, 0 to 999" */
    private static void beginAnswer() {
        CallGateway x = gateway();
        for (int answer : new int[] {-1, -999, 1000, 65536, HIGHEST, LOWEST}) {
            Check.due(Check.IAE, () -> x.begin(0, answer, 1, 1));
        }
        for (int answer : new int[] {0, 1, 998, 999}) {
            Check.due(1, () -> x.begin(0, answer, 1, 1));
            Check.due(answer, () -> x.promote(0));
        }
    }

    /** Promise 8: "its share, 1 to 100" */
    private static void beginShare() {
        CallGateway x = gateway();
        for (int share : new int[] {0, -1, 101, 65537, HIGHEST, LOWEST}) {
            Check.due(Check.IAE, () -> x.begin(1, 0, share, 1));
        }
        x.begin(1, 0, 1, 1);
        Check.due('c', () -> x.call(0, 2, 0));
        Check.due('s', () -> x.call(0, 2, 1));
        x.takeBack(1);
        x.begin(1, 0, 100, 1);
        Check.due('c', () -> x.call(0, 2, 99));
    }

    /** Promise 8: "its limit of faults, 1 to 9" */
    private static void beginLimit() {
        CallGateway x = gateway();
        for (int limit : new int[] {0, -1, 10, 65537, HIGHEST, LOWEST}) {
            Check.due(Check.IAE, () -> x.begin(0, 0, 100, limit));
        }
        x.begin(0, 0, 100, 1);
        x.call(0, 1, 0);
        Check.due(false, () -> x.hasCanary(0));
        x.begin(0, 0, 100, 9);
        for (int fault = 1; fault < 9; fault++) {
            x.call(0, 1, 0);
            Check.due(true, () -> x.hasCanary(0));
        }
        x.call(0, 1, 0);
        Check.due(false, () -> x.hasCanary(0));
    }

    /** Promise 8: "Returns the number of canaries that there are then." */
    private static void beginReturnsTheNumberOfCanaries() {
        CallGateway x = gateway();
        Check.due(1, () -> x.begin(1, 0, 1, 1));
        Check.due(2, () -> x.begin(0, 999, 100, 2));
        x.takeBack(1);
        Check.due(2, () -> x.begin(1, 0, 1, 1));
        x.call(0, 1, 0);
        x.call(0, 1, 0);
        Check.due(2, () -> x.begin(0, 0, 1, 1));
        Check.due(Check.ISE, () -> x.begin(0, 0, 1, 1));
        x.promote(0);
        x.promote(1);
        Check.due(1, () -> x.begin(0, 5, 5, 5));
    }

    /** The same sentence, when all routes have one. */
    private static void beginCountsUpToEight() {
        CallGateway x = new CallGateway();
        for (int i = 0; i < 8; i++) {
            x.addRoute(i, 1, 0, 9);
        }
        for (int i = 7; i >= 0; i--) {
            int route = i;
            Check.due(8 - route, () -> x.begin(route, 0, 1, 1));
        }
        x.takeBack(3);
        Check.due(8, () -> x.begin(3, 0, 1, 1));
    }

    /** Promise 8: "Throws IndexOutOfBoundsException if there is no such route" */
    private static void beginThrowsIfThereIsNoSuchRoute() {
        CallGateway x = gateway();
        for (int route : NO_ROUTES) {
            Check.due(Check.IOOBE, () -> x.begin(route, 0, 1, 1));
            Check.due(Check.IOOBE, () -> x.begin(route, -1, 0, 0));
        }
        Check.due(1, () -> x.begin(1, 0, 1, 1));
    }

    /** Promise 8: "Throws IllegalArgumentException if a number is out of range": none begins then. */
    private static void beginThrowsIfOutOfRange() {
        CallGateway x = gateway();
        Check.due(Check.IAE, () -> x.begin(0, 1000, 1, 1));
        Check.due(Check.IAE, () -> x.begin(0, 0, 101, 1));
        Check.due(Check.IAE, () -> x.begin(0, 0, 1, 10));
        Check.due(Check.IAE, () -> x.begin(0, -1, 0, 0));
        Check.due(false, () -> x.hasCanary(0));
        Check.due(1, () -> x.begin(1, 0, 1, 1));
    }

    /** Promise 8: "Throws IllegalStateException if the route has a canary" */
    private static void beginThrowsIfTheRouteHasACanary() {
        CallGateway x = gateway();
        x.begin(0, 120, 7, 1);
        Check.due(Check.ISE, () -> x.begin(0, 0, 1, 1));
        Check.due(Check.ISE, () -> x.begin(0, 120, 7, 1));
        Check.due(Check.IAE, () -> x.begin(0, 0, 101, 1));
        Check.due(Check.IOOBE, () -> x.begin(2, 0, 1, 1));
        Check.due(7, () -> x.setShare(0, 7));
        Check.due(2, () -> x.begin(1, 0, 1, 1));
        Check.due(120, () -> x.promote(0));
    }

    /** Promise 9: "Sets the share of a canary.": of this one, from the next call on, its faults as they are. */
    private static void setShareSets() {
        CallGateway x = gateway();
        x.begin(0, 150, 40, 2);
        x.begin(1, 150, 40, 2);
        x.setContract(0, 0, 0);
        x.call(1, 1, 0);
        x.setContract(0, 100, 199);
        x.setShare(0, 7);
        Check.due('c', () -> x.call(0, 1, 6));
        Check.due('s', () -> x.call(0, 1, 7));
        Check.due('c', () -> x.call(0, 2, 39));
        x.setShare(0, 8);
        Check.due('c', () -> x.call(0, 1, 7));
        x.setShare(0, 100);
        Check.due('c', () -> x.call(1, 1, 99));
        x.setShare(0, 1);
        Check.due('s', () -> x.call(1, 1, 1));
        Check.due(1, () -> x.faults(0));
    }

    /** Promise 9: "Returns the share before." */
    private static void setShareReturnsTheShareBefore() {
        CallGateway x = gateway();
        x.begin(0, 150, 40, 2);
        x.begin(1, 150, 41, 2);
        Check.due(40, () -> x.setShare(0, 1));
        Check.due(1, () -> x.setShare(0, 100));
        Check.due(Check.IAE, () -> x.setShare(0, 101));
        Check.due(100, () -> x.setShare(0, 7));
        Check.due(7, () -> x.setShare(0, 7));
        Check.due(41, () -> x.setShare(1, 7));
    }

    /** Promise 9: "Throws IndexOutOfBoundsException if there is no such route" */
    private static void setShareThrowsIfThereIsNoSuchRoute() {
        CallGateway x = gateway();
        x.begin(1, 0, 5, 1);
        for (int route : NO_ROUTES) {
            Check.due(Check.IOOBE, () -> x.setShare(route, 5));
            Check.due(Check.IOOBE, () -> x.setShare(route, 500));
        }
        Check.due(5, () -> x.setShare(1, 5));
    }

    /** Promise 9: "the share, 1 to 100", "Throws IllegalArgumentException if the share is out of range" */
    private static void setShareThrowsIfOutOfRange() {
        CallGateway x = gateway();
        x.begin(0, 150, 40, 2);
        for (int share : new int[] {0, -1, -5, 101, 256, 65537, HIGHEST, LOWEST}) {
            Check.due(Check.IAE, () -> x.setShare(0, share));
            Check.due(Check.IAE, () -> x.setShare(1, share));
        }
        Check.due(40, () -> x.setShare(0, 1));
        Check.due(1, () -> x.setShare(0, 100));
        Check.due(100, () -> x.setShare(0, 40));
    }

    /** Promise 9: "Throws IllegalStateException if the route has no canary": none yet, and none any more. */
    private static void setShareThrowsIfTheRouteHasNoCanary() {
        CallGateway x = gateway();
        Check.due(Check.ISE, () -> x.setShare(0, 1));
        Check.due(Check.ISE, () -> x.setShare(0, 100));
        x.begin(1, 0, 5, 1);
        Check.due(Check.ISE, () -> x.setShare(0, 5));
        x.takeBack(1);
        Check.due(Check.ISE, () -> x.setShare(1, 5));
        x.begin(1, 0, 5, 1);
        x.promote(1);
        Check.due(Check.ISE, () -> x.setShare(1, 5));
    }

    /** Promise 10: "Makes a canary stable." */
    private static void promoteMakesACanaryStable() {
        CallGateway x = gateway();
        x.setAnswer(0, 111);
        x.begin(0, 500, 10, 2);
        x.begin(1, 600, 10, 2);
        Check.due('c', () -> x.broken(0));
        x.promote(0);
        Check.due('s', () -> x.broken(0));
        Check.due(false, () -> x.hasCanary(0));
        Check.due(true, () -> x.hasCanary(1));
        Check.due('s', () -> x.call(0, 1, 0));
        Check.due(500, () -> x.setAnswer(0, 0));
        Check.due(0, () -> x.setAnswer(1, 0));
    }

    /** Promise 10: "Returns the answer of the stable version then." */
    private static void promoteReturnsTheAnswerThen() {
        CallGateway x = gateway();
        for (int answer : new int[] {0, 1, 555, 999}) {
            x.setAnswer(0, 5);
            x.begin(0, answer, 10, 2);
            Check.due(answer, () -> x.promote(0));
        }
    }

    /** Promise 10: "Throws IndexOutOfBoundsException if there is no such route" */
    private static void promoteThrowsIfThereIsNoSuchRoute() {
        CallGateway x = gateway();
        for (int route : NO_ROUTES) {
            Check.due(Check.IOOBE, () -> x.promote(route));
        }
    }

    /** Promise 10: "Throws IllegalStateException if the route has no canary": none yet, and none any more. */
    private static void promoteThrowsIfTheRouteHasNoCanary() {
        CallGateway x = gateway();
        Check.due(Check.ISE, () -> x.promote(0));
        x.begin(0, 500, 10, 2);
        Check.due(Check.ISE, () -> x.promote(1));
        x.promote(0);
        Check.due(Check.ISE, () -> x.promote(0));
        x.begin(0, 0, 10, 1);
        x.takeBack(0);
        Check.due(Check.ISE, () -> x.promote(0));
        x.begin(0, 0, 10, 1);
        x.call(0, 1, 0);
        Check.due(Check.ISE, () -> x.promote(0));
        Check.due(500, () -> x.setAnswer(0, 0));
    }

    private static void promotedCallsStay() {
        CallGateway x = gateway();
        x.begin(0, 150, 100, 1);
        x.call(0, 1, 0);
        x.promote(0);
        Check.due(18, () -> x.tokens(0));
        Check.due(20L, () -> x.bill(0));
        Check.due(Check.ISE, () -> x.takeBack(0));
        x.begin(0, 150, 100, 1);
        Check.due(0, () -> x.takeBack(0));
        Check.due(false, () -> x.isUndone(0));
        Check.due(20L, () -> x.bill(0));
        x.begin(0, 0, 100, 1);
        Check.due('f', () -> x.call(0, 1, 0));
        Check.due(false, () -> x.isUndone(0));
        Check.due(20L, () -> x.billByLog(0));
    }

    /** Promise 11: "Takes a canary back.": the stable version answers as before. */
    private static void takeBackTakesACanaryBack() {
        CallGateway x = gateway();
        x.setAnswer(0, 111);
        x.begin(0, 150, 50, 9);
        Check.due('c', () -> x.call(0, 1, 49));
        Check.due('s', () -> x.call(0, 1, 50));
        Check.due('c', () -> x.call(0, 12, 0));
        Check.due(14, () -> x.tokens(0));
        Check.due(60L, () -> x.bill(0));
        x.takeBack(0);
        Check.due(18, () -> x.tokens(0));
        Check.due(20L, () -> x.bill(0));
        Check.due(20L, () -> x.billByLog(0));
        Check.due(true, () -> x.isUndone(0));
        Check.due(false, () -> x.isUndone(1));
        Check.due(true, () -> x.isUndone(2));
        Check.due(false, () -> x.hasCanary(0));
        Check.due('n', () -> x.broken(0));
        Check.due('s', () -> x.call(0, 1, 0));
        Check.due(111, () -> x.setAnswer(0, 0));
    }

    /** Promise 11: "Returns the number of calls that are undone by this.": none, and not those of another one. */
    private static void takeBackReturnsTheNumberOfUndoneCalls() {
        CallGateway x = gateway();
        x.begin(0, 150, 50, 9);
        Check.due(0, () -> x.takeBack(0));
        x.begin(0, 150, 50, 9);
        x.call(0, 1, 50);
        x.call(0, 9, 0);
        Check.due(0, () -> x.takeBack(0));
        x.begin(0, 150, 50, 9);
        x.call(0, 1, 0);
        Check.due(1, () -> x.takeBack(0));
        x.begin(0, 150, 50, 9);
        x.call(0, 1, 0);
        x.call(1, 1, 0);
        x.call(0, 1, 49);
        Check.due(3, () -> x.takeBack(0));
        x.begin(0, 150, 50, 9);
        Check.due(0, () -> x.takeBack(0));
    }

    /** Promise 11: "Throws IndexOutOfBoundsException if there is no such route" */
    private static void takeBackThrowsIfThereIsNoSuchRoute() {
        CallGateway x = gateway();
        for (int route : NO_ROUTES) {
            Check.due(Check.IOOBE, () -> x.takeBack(route));
        }
    }

    /** Promise 11: "Throws IllegalStateException if the route has no canary": none yet, and none any more. */
    private static void takeBackThrowsIfTheRouteHasNoCanary() {
        CallGateway x = gateway();
        Check.due(Check.ISE, () -> x.takeBack(0));
        x.begin(0, 150, 50, 1);
        Check.due(Check.ISE, () -> x.takeBack(1));
        x.takeBack(0);
        Check.due(Check.ISE, () -> x.takeBack(0));
        x.begin(0, 150, 50, 1);
        x.promote(0);
        Check.due(Check.ISE, () -> x.takeBack(0));
        x.begin(0, 0, 50, 1);
        x.call(0, 1, 0);
        Check.due(Check.ISE, () -> x.takeBack(0));
    }

    private static void takeBackUndoesTheCallsOfThatCanaryAlone() {
        CallGateway x = gateway();
        x.begin(0, 150, 100, 9);
        x.begin(1, 150, 100, 9);
        x.call(0, 1, 0);
        x.call(0, 2, 0);
        Check.due(1, () -> x.takeBack(0));
        Check.due(true, () -> x.isUndone(0));
        Check.due(false, () -> x.isUndone(1));
        x.begin(0, 150, 100, 9);
        x.call(0, 1, 0);
        Check.due(1, () -> x.takeBack(0));
        Check.due(17, () -> x.tokens(0));
        Check.due(30L, () -> x.bill(0));
        Check.due(1, () -> x.takeBack(1));
        Check.due(20, () -> x.tokens(0));
        Check.due(0L, () -> x.bill(0));
    }

    private static void takeBackLeavesAllOtherKinds() {
        CallGateway x = gateway();
        x.call(0, 1, 0);
        x.call(0, 9, 0);
        for (int canary = 0; canary < 5; canary++) {
            x.begin(0, 99, 50, 9);
            x.call(1, 1, 50);
            x.call(1, 1, 0);
            Check.due(0, () -> x.takeBack(0));
        }
        Check.due(18, () -> x.tokens(0));
        Check.due(10, () -> x.tokens(1));
        Check.due(20L, () -> x.bill(0));
        Check.due(100L, () -> x.billByLog(1));
        for (int i = 0; i < 12; i++) {
            int call = i;
            Check.due(false, () -> x.isUndone(call));
        }
    }

    private static void takeBackReachesAllCallers() {
        CallGateway x = gateway();
        x.begin(1, 150, 100, 9);
        x.call(0, 2, 0);
        x.call(1, 2, 0);
        x.call(1, 2, 0);
        Check.due(60L, () -> x.bill(1));
        Check.due(3, () -> x.takeBack(1));
        Check.due(20, () -> x.tokens(0));
        Check.due(20, () -> x.tokens(1));
        Check.due(0L, () -> x.bill(0));
        Check.due(0L, () -> x.billByLog(1));
    }

    private static void takeBackGivesToTheBurstThen() {
        CallGateway x = gateway();
        x.begin(1, 150, 100, 9);
        x.call(0, 2, 0);
        x.call(0, 2, 0);
        x.call(1, 2, 0);
        x.pass(1);
        Check.due(19, () -> x.tokens(0));
        Check.due(20, () -> x.tokens(1));
        Check.due(15, () -> x.setPlan(0, 1));
        x.call(0, 1, 0);
        Check.due(2, () -> x.tokens(0));
        Check.due(3, () -> x.takeBack(1));
        Check.due(4, () -> x.tokens(0));
        Check.due(20, () -> x.tokens(1));
    }

    private static void takeBackTakesOffWhatWasAddedThen() {
        CallGateway x = gateway();
        x.begin(0, 150, 100, 9);
        x.call(0, 1, 0);
        x.setPlan(0, 1);
        x.call(0, 1, 0);
        Check.due(34L, () -> x.bill(0));
        x.setPlan(0, 0);
        Check.due(2, () -> x.takeBack(0));
        Check.due(0L, () -> x.bill(0));
        Check.due(6, () -> x.tokens(0));
    }

    /** Promise 12: "Returns whether a route has a canary.": as it is when it is asked. */
    private static void hasCanaryReturnsWhetherItHas() {
        CallGateway x = gateway();
        Check.due(false, () -> x.hasCanary(0));
        x.begin(0, 99, 100, 2);
        Check.due(true, () -> x.hasCanary(0));
        Check.due(false, () -> x.hasCanary(1));
        x.call(0, 1, 0);
        Check.due(true, () -> x.hasCanary(0));
        x.call(0, 1, 0);
        Check.due(false, () -> x.hasCanary(0));
        x.begin(0, 99, 100, 2);
        x.takeBack(0);
        Check.due(false, () -> x.hasCanary(0));
        x.begin(0, 99, 100, 2);
        x.promote(0);
        Check.due(false, () -> x.hasCanary(0));
    }

    /** Promise 12: "Throws IndexOutOfBoundsException if there is no such route" */
    private static void hasCanaryThrowsIfThereIsNoSuchRoute() {
        CallGateway x = gateway();
        for (int route : NO_ROUTES) {
            Check.due(Check.IOOBE, () -> x.hasCanary(route));
        }
    }

    /** Promise 13: "Returns the faults of a canary.": calls of other kinds are none, nor those of another route. */
    private static void faultsReturnsTheNumberOfFaults() {
        CallGateway x = gateway();
        x.begin(0, 99, 50, 9);
        x.begin(1, 99, 50, 9);
        Check.due(0, () -> x.faults(0));
        x.call(0, 1, 49);
        Check.due(1, () -> x.faults(0));
        x.call(0, 1, 50);
        Check.due(1, () -> x.faults(0));
        x.setContract(0, 99, 99);
        x.call(0, 1, 0);
        Check.due(1, () -> x.faults(0));
        x.setContract(0, 0, 98);
        x.call(1, 1, 0);
        Check.due(2, () -> x.faults(0));
        Check.due(0, () -> x.faults(1));
        for (int fault = 3; fault <= 8; fault++) {
            int number = fault;
            x.call(1, 1, 0);
            Check.due(number, () -> x.faults(0));
        }
    }

    /** Promise 13: "Throws IndexOutOfBoundsException if there is no such route" */
    private static void faultsThrowsIfThereIsNoSuchRoute() {
        CallGateway x = gateway();
        for (int route : NO_ROUTES) {
            Check.due(Check.IOOBE, () -> x.faults(route));
        }
    }

    /** Promise 13: "Throws NoSuchElementException if the route has no canary": none yet, and none any more. */
    private static void faultsThrowsIfTheRouteHasNoCanary() {
        CallGateway x = gateway();
        Check.due(Check.NSEE, () -> x.faults(0));
        x.begin(0, 99, 50, 1);
        Check.due(Check.NSEE, () -> x.faults(1));
        x.promote(0);
        Check.due(Check.NSEE, () -> x.faults(0));
        x.begin(0, 99, 50, 1);
        x.takeBack(0);
        Check.due(Check.NSEE, () -> x.faults(0));
        x.begin(0, 99, 50, 1);
        x.call(0, 1, 0);
        Check.due(Check.NSEE, () -> x.faults(0));
    }

    private static void faultsReachTheLimit() {
        CallGateway x = gateway();
        x.setAnswer(0, 120);
        x.begin(0, 150, 100, 2);
        Check.due('c', () -> x.call(0, 1, 0));
        Check.due('c', () -> x.call(1, 1, 99));
        x.setContract(0, 100, 149);
        Check.due('f', () -> x.call(0, 1, 0));
        Check.due(true, () -> x.hasCanary(0));
        Check.due(20L, () -> x.bill(0));
        Check.due(false, () -> x.isUndone(0));
        Check.due('f', () -> x.call(0, 1, 0));
        Check.due(false, () -> x.hasCanary(0));
        Check.due(Check.NSEE, () -> x.faults(0));
        Check.due(true, () -> x.isUndone(0));
        Check.due(true, () -> x.isUndone(1));
        Check.due(false, () -> x.isUndone(2));
        Check.due(false, () -> x.isUndone(3));
        Check.due(20, () -> x.tokens(0));
        Check.due(20, () -> x.tokens(1));
        Check.due(0L, () -> x.bill(0));
        Check.due(0L, () -> x.bill(1));
        Check.due('s', () -> x.call(0, 1, 0));
        Check.due(120, () -> x.setAnswer(0, 0));
        Check.due(1, () -> x.begin(0, 500, 100, 1));
        Check.due('f', () -> x.call(0, 1, 0));
        Check.due(false, () -> x.hasCanary(0));
    }
}
