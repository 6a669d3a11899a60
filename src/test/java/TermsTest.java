/** The sentences of "Terms" that name a boundary, each quoted above its test. */
public final class TermsTest {
    private static final int LOWEST = Integer.MIN_VALUE;
    private static final int HIGHEST = Integer.MAX_VALUE;

    public static void main(String[] args) {
        anObjectIsUsedForAtMost512Calls();
        noCallerPaysForUndoneCalls();
        aPathIsARowOfDigits();
        atMost8Routes();
        aRouteFitsAPath();
        aPathGoesToTheLongest();
        atMost3Plans();
        atMost6Callers();
        aTickPasses();
        eachRouteHasAStableVersion();
        allAnswersAreFrom0To999();
        aCanaryHasAShareAndALimit();
        anAnswerBreaksTheContract();
        aCallComesWithAKey();
        ofTheFirstKindThatApplies();
        kindN();
        kindL();
        kindS();
        kindC();
        kindF();
        aCallTakesTokensAndAddsToTheBill();
        aFaultTakesNothing();
        theFaultsReachTheLimit();
        theFaultsOfAllCallersCount();
        itsCallsAreUndone();
        theCallerGetsTheTokensBack();
        theBurstThatItsPlanHasThen();
        theBillDecreasesByWhatItAdded();
        aCanaryBecomesStable();
        theLogHasAnEntryForEachCall();
        Check.end();
    }

    /** A route of cost 1 with the empty path and the contract 100 to 199, a plan and a caller. */
    private static CallGateway gateway(int rate, int burst, int price) {
        CallGateway x = new CallGateway();
        x.addRoute(0, 1, 100, 199);
        x.addPlan(rate, burst, price);
        x.addCaller(0);
        return x;
    }

    /** "An object is used for at most 512 calls after it has been made": the 512th answers as the others do. */
    private static void anObjectIsUsedForAtMost512Calls() {
        CallGateway x = gateway(20, 100, 99);
        x.begin(0, 150, 100, 1);
        for (int round = 0; round < 5; round++) {
            for (int i = 0; i < 100; i++) {
                Check.due('c', () -> x.call(0, 0, 99));
            }
            Check.due(100, () -> x.pass(5));
        }
        Check.due('c', () -> x.call(0, 0, 0));
        Check.due(501L * 99, () -> x.bill(0));
        Check.due(501, () -> x.takeBack(0));

        CallGateway full = gateway(20, 100, 99);
        for (int i = 0; i < 508; i++) {
            full.call(0, 0, 0);
        }
        Check.due(508, () -> full.calls());
    }

    /** "No caller pays for calls that the gateway undid." */
    private static void noCallerPaysForUndoneCalls() {
        CallGateway x = gateway(1, 10, 7);
        x.begin(0, 150, 50, 1);
        x.call(0, 1, 49);
        x.call(0, 1, 50);
        x.call(0, 1, 0);
        Check.due(21L, () -> x.bill(0));
        x.takeBack(0);
        Check.due(7L, () -> x.bill(0));
        Check.due(7L, () -> x.billByLog(0));
        Check.due(9, () -> x.tokens(0));
    }

    /** "A path is a row of 0 to 4 digits from 1 to 9, told as a number whose digits they are, or 0 for the empty
     * one." */
    private static void aPathIsARowOfDigits() {
        CallGateway x = gateway(1, 100, 0);
        for (int path : new int[] {0, 1, 9, 11, 19, 91, 99, 111, 199, 911, 999, 1111, 1999, 9111, 9999}) {
            duePath(x, path, 0, 's');
        }
        for (int path : new int[] {
            -1, -9, -11, -1111, -9999, LOWEST, LOWEST + 1,
            10, 90, 100, 101, 109, 110, 190, 901, 990, 1000, 1001, 1010, 1011, 1101, 1110, 9099, 9909, 9990,
            10000, 10001, 11111, 19999, 99999, 65536, 65537, 111111111, HIGHEST}) {
            duePath(x, path, Check.IAE, Check.IAE);
            Check.due(Check.IAE, () -> x.addRoute(path, 1, 0, 9));
        }
        Check.due(1, () -> x.addRoute(1111, 1, 0, 9));
    }

    private static void duePath(CallGateway x, int path, Object route, Object kind) {
        Check.due(route, () -> x.route(path));
        Check.due(route, () -> x.routeByComparing(path));
        Check.due(kind, () -> x.call(0, path, 0));
    }

    /** "At most 8 routes are numbered from 0; each has a path, which no other route has, a cost from 1 to 5, and a
     * contract, which is a least and a greatest answer." */
    private static void atMost8Routes() {
        CallGateway x = new CallGateway();
        int[] paths = {0, 1, 11, 111, 1111, 9, 99, 9999};
        for (int i = 0; i < 8; i++) {
            int number = i;
            Check.due(Check.IOOBE, () -> x.hasCanary(number));
            Check.due(number, () -> x.addRoute(paths[number], 1 + number % 5, number, 999));
            Check.due(Check.IAE, () -> x.addRoute(paths[number], 1, 0, 999));
            Check.due(number, () -> x.setContract(number, 0, 999));
        }
        Check.due(Check.ISE, () -> x.addRoute(2, 1, 0, 999));
        for (int path : paths) {
            Check.due(Check.IAE, () -> x.addRoute(path, 1, 0, 999));
        }
        Check.due(Check.IOOBE, () -> x.hasCanary(8));
        Check.due(7, () -> x.route(9999));
    }

    /** "A route fits a path if its own path is the beginning of it, or all of it." */
    private static void aRouteFitsAPath() {
        CallGateway x = new CallGateway();
        x.addRoute(12, 1, 0, 9);
        for (int path : new int[] {12, 121, 129, 1212, 1299, 1211}) {
            dueRoute(x, path, 0);
        }
        // Too short, the end, the middle, other digits, and numbers that are only near.
        for (int path : new int[] {0, 1, 2, 312, 3412, 3123, 21, 11, 13, 112, 1112, 22, 9912}) {
            dueRoute(x, path, Check.NSEE);
        }
        CallGateway empty = new CallGateway();
        empty.addRoute(0, 1, 0, 9);
        for (int path : new int[] {0, 1, 9, 99, 999, 9999, 1234}) {
            dueRoute(empty, path, 0);
        }
        CallGateway whole = new CallGateway();
        whole.addRoute(1234, 1, 0, 9);
        dueRoute(whole, 1234, 0);
        for (int path : new int[] {0, 1, 12, 123, 1235, 1233, 2234, 234, 4}) {
            dueRoute(whole, path, Check.NSEE);
        }
    }

    /** "A path goes to the route with the longest path of those that fit it.": whatever their order. */
    private static void aPathGoesToTheLongest() {
        int[][] orders = {{0, 1, 12, 123, 1234}, {1234, 123, 12, 1, 0}, {12, 1234, 0, 1, 123}, {123, 0, 1234, 12, 1}};
        for (int[] order : orders) {
            CallGateway x = new CallGateway();
            for (int path : order) {
                x.addRoute(path, 1, 0, 9);
            }
            for (int number = 0; number < 5; number++) {
                dueRoute(x, order[number], number);
            }
            dueRoute(x, 2, placeOf(0, order));
            dueRoute(x, 4321, placeOf(0, order));
            dueRoute(x, 19, placeOf(1, order));
            dueRoute(x, 1999, placeOf(1, order));
            dueRoute(x, 1299, placeOf(12, order));
            dueRoute(x, 1239, placeOf(123, order));
        }
        CallGateway gap = new CallGateway();
        gap.addRoute(1234, 1, 0, 9);
        gap.addRoute(1, 1, 0, 9);
        dueRoute(gap, 1239, 1);
        dueRoute(gap, 12, 1);
        dueRoute(gap, 2, Check.NSEE);
    }

    private static int placeOf(int wanted, int[] all) {
        for (int i = 0; i < all.length; i++) {
            if (all[i] == wanted) {
                return i;
            }
        }
        return -1;
    }

    private static void dueRoute(CallGateway x, int path, Object want) {
        Check.due(want, () -> x.route(path));
        Check.due(want, () -> x.routeByComparing(path));
    }

    /** "At most 3 plans are numbered from 0; each has a rate from 1 to 20, a burst from 1 to 100, and a price from 0
     * to 99." */
    private static void atMost3Plans() {
        CallGateway x = new CallGateway();
        Check.due(Check.IOOBE, () -> x.addCaller(0));
        Check.due(0, () -> x.addPlan(1, 1, 0));
        Check.due(Check.IOOBE, () -> x.addCaller(1));
        Check.due(1, () -> x.addPlan(20, 100, 99));
        Check.due(Check.IOOBE, () -> x.addCaller(2));
        Check.due(2, () -> x.addPlan(1, 1, 0));
        Check.due(Check.ISE, () -> x.addPlan(1, 1, 0));
        Check.due(Check.IOOBE, () -> x.addCaller(3));
        Check.due(0, () -> x.addCaller(2));
    }

    /** "At most 6 callers are numbered from 0; each has a plan, tokens, which are as many as the burst of its plan at
     * first, and a bill, initially 0." */
    private static void atMost6Callers() {
        CallGateway x = new CallGateway();
        int[] bursts = {1, 50, 100};
        for (int burst : bursts) {
            x.addPlan(3, burst, 99);
        }
        for (int i = 0; i < 6; i++) {
            int number = i;
            Check.due(Check.IOOBE, () -> x.tokens(number));
            Check.due(number, () -> x.addCaller(number % 3));
            Check.due(bursts[number % 3], () -> x.tokens(number));
            Check.due(0L, () -> x.bill(number));
            Check.due(0L, () -> x.billByLog(number));
        }
        Check.due(Check.ISE, () -> x.addCaller(0));
        Check.due(Check.IOOBE, () -> x.tokens(6));
    }

    /** "When a tick passes, the tokens of each caller increase by the rate of its plan, but to at most its burst." */
    private static void aTickPasses() {
        CallGateway x = new CallGateway();
        x.addRoute(0, 1, 0, 9);
        x.addPlan(3, 10, 0);
        x.addPlan(20, 5, 0);
        for (int plan : new int[] {0, 0, 0, 0, 0, 1}) {
            x.addCaller(plan);
        }
        // Tokens below the burst: none, one, one less than the rate, the rate, one more, and all of a small burst.
        int[] below = {0, 1, 2, 3, 4, 5};
        int[] after = {10, 10, 10, 10, 9, 5};
        for (int i = 0; i < 6; i++) {
            for (int call = 0; call < below[i]; call++) {
                x.call(i, 0, 0);
            }
        }
        Check.due(0 + 1 + 2 + 3 + 3 + 5, () -> x.pass(1));
        for (int i = 0; i < 6; i++) {
            int caller = i;
            Check.due(after[caller], () -> x.tokens(caller));
        }
        Check.due(1, () -> x.pass(1));
        Check.due(0, () -> x.pass(1));
    }

    /** "Each route has a stable version, whose answers are 0 at first, and can have a canary, whose answers are told
     * when it begins." */
    private static void eachRouteHasAStableVersion() {
        CallGateway x = new CallGateway();
        x.addRoute(1, 1, 0, 0);
        x.addRoute(2, 1, 1, 999);
        Check.due('n', () -> x.broken(0));
        Check.due('s', () -> x.broken(1));
        Check.due(0, () -> x.setAnswer(0, 0));
        Check.due(0, () -> x.setAnswer(1, 0));
        Check.due(false, () -> x.hasCanary(0));
        x.begin(0, 0, 1, 1);
        x.begin(1, 999, 1, 1);
        Check.due('n', () -> x.broken(0));
        Check.due('s', () -> x.broken(1));
        Check.due(0, () -> x.promote(0));
        Check.due(999, () -> x.promote(1));
    }

    /** "All answers are from 0 to 999." */
    private static void allAnswersAreFrom0To999() {
        CallGateway x = gateway(1, 1, 0);
        for (int answer : new int[] {-1, -999, -1000, 1000, 1001, 65536, LOWEST, HIGHEST}) {
            Check.due(Check.IAE, () -> x.setAnswer(0, answer));
            Check.due(Check.IAE, () -> x.begin(0, answer, 1, 1));
            Check.due(Check.IAE, () -> x.setContract(0, answer, 999));
            Check.due(Check.IAE, () -> x.setContract(0, 0, answer));
            Check.due(Check.IAE, () -> x.setContract(0, answer, answer));
            Check.due(Check.IAE, () -> x.addRoute(1, 1, answer, 999));
            Check.due(Check.IAE, () -> x.addRoute(1, 1, 0, answer));
            Check.due(Check.IAE, () -> x.addRoute(1, 1, answer, answer));
        }
        for (int answer : new int[] {0, 1, 998, 999}) {
            x.setAnswer(0, answer);
            Check.due(answer, () -> x.setAnswer(0, 5));
            Check.due(1, () -> x.begin(0, answer, 1, 1));
            Check.due(answer, () -> x.promote(0));
            x.setContract(0, answer, answer);
            Check.due(answer, () -> x.setContract(0, 5, 5));
        }
    }

    /** "A canary has a share from 1 to 100, and a limit of faults from 1 to 9." */
    private static void aCanaryHasAShareAndALimit() {
        CallGateway x = gateway(1, 1, 0);
        for (int share : new int[] {0, -1, -100, 101, 256, 257, 65537, LOWEST, HIGHEST}) {
            Check.due(Check.IAE, () -> x.begin(0, 0, share, 1));
        }
        for (int limit : new int[] {0, -1, -9, 10, 256, 257, 65537, LOWEST, HIGHEST}) {
            Check.due(Check.IAE, () -> x.begin(0, 0, 1, limit));
        }
        for (int share : new int[] {1, 2, 99, 100}) {
            Check.due(1, () -> x.begin(0, 0, share, share == 1 ? 1 : 9));
            Check.due(share, () -> x.setShare(0, 50));
            x.takeBack(0);
        }
    }

    /** "An answer breaks the contract of a route if it is less than the least answer or greater than the greatest
     * one." */
    private static void anAnswerBreaksTheContract() {
        dueBroken(100, 199, new int[] {0, 99, 200, 999}, new int[] {100, 101, 150, 198, 199});
        dueBroken(500, 500, new int[] {499, 501, 0, 999}, new int[] {500});
        dueBroken(0, 0, new int[] {1, 999}, new int[] {0});
        dueBroken(999, 999, new int[] {998, 0}, new int[] {999});
        dueBroken(0, 999, new int[] {}, new int[] {0, 1, 998, 999});
    }

    private static void dueBroken(int least, int greatest, int[] breaking, int[] keeping) {
        CallGateway x = new CallGateway();
        x.addRoute(1, 1, least, greatest);
        for (int answer : breaking) {
            x.setAnswer(0, answer);
            Check.due('s', () -> x.broken(0));
            x.begin(0, answer, 1, 1);
            Check.due('b', () -> x.broken(0));
            x.setAnswer(0, least);
            Check.due('c', () -> x.broken(0));
            x.takeBack(0);
        }
        for (int answer : keeping) {
            x.setAnswer(0, answer);
            Check.due('n', () -> x.broken(0));
            x.begin(0, answer, 1, 1);
            Check.due('n', () -> x.broken(0));
            x.takeBack(0);
        }
    }

    /** "A call comes from a caller, to a path, with a key from 0 to 99." */
    private static void aCallComesWithAKey() {
        CallGateway x = gateway(1, 9, 0);
        for (int key : new int[] {-1, -99, 100, 101, 256, 65536, LOWEST, HIGHEST}) {
            Check.due(Check.IAE, () -> x.call(0, 1, key));
        }
        for (int key : new int[] {0, 1, 98, 99}) {
            Check.due('s', () -> x.call(0, 1, key));
        }
        Check.due(4, () -> x.calls());
    }

    /** "It is of the first one of these kinds that applies": of any two, the call is of the one before. */
    private static void ofTheFirstKindThatApplies() {
        CallGateway x = new CallGateway();
        x.addRoute(1, 2, 100, 199);
        x.addPlan(1, 2, 5);
        x.addCaller(0);
        Check.due('s', () -> x.call(0, 1, 0));
        Check.due('n', () -> x.call(0, 2, 0));
        Check.due('l', () -> x.call(0, 1, 0));
        x.begin(0, 150, 50, 1);
        Check.due('l', () -> x.call(0, 1, 0));
        Check.due('l', () -> x.call(0, 1, 50));
        x.setContract(0, 0, 0);
        Check.due('l', () -> x.call(0, 1, 0));
        Check.due(0, () -> x.faults(0));
        x.pass(1);
        Check.due('l', () -> x.call(0, 1, 0));
        x.pass(1);
        Check.due('n', () -> x.call(0, 2, 0));
        Check.due('s', () -> x.call(0, 1, 50));
        x.pass(2);
        Check.due('f', () -> x.call(0, 1, 0));
    }

    /** "'n' if the path goes to no route": none there, or none that fits; with tokens and without. */
    private static void kindN() {
        CallGateway x = new CallGateway();
        x.addPlan(1, 1, 5);
        x.addCaller(0);
        Check.due('n', () -> x.call(0, 0, 0));
        x.addRoute(12, 1, 0, 9);
        Check.due('n', () -> x.call(0, 0, 0));
        Check.due('n', () -> x.call(0, 1, 0));
        Check.due('n', () -> x.call(0, 2, 99));
        Check.due(1, () -> x.tokens(0));
        Check.due('s', () -> x.call(0, 12, 0));
        Check.due('n', () -> x.call(0, 1, 0));
        Check.due(5L, () -> x.bill(0));
        x.addRoute(0, 1, 0, 9);
        Check.due('l', () -> x.call(0, 1, 0));
    }

    /** "'l' if the caller has fewer tokens than the cost of the route": at each cost, one fewer and just as many. */
    private static void kindL() {
        for (int cost = 1; cost <= 5; cost++) {
            CallGateway x = new CallGateway();
            x.addRoute(1, cost, 0, 9);
            x.addPlan(1, cost, 1);
            x.addCaller(0);
            Check.due('s', () -> x.call(0, 1, 0));
            for (int tick = 0; tick < cost; tick++) {
                Check.due('l', () -> x.call(0, 1, 0));
                x.pass(1);
            }
            Check.due('s', () -> x.call(0, 1, 0));
            Check.due(0, () -> x.tokens(0));
        }
        CallGateway never = new CallGateway();
        never.addRoute(1, 5, 0, 9);
        never.addPlan(20, 4, 1);
        never.addCaller(0);
        never.pass(100);
        Check.due('l', () -> never.call(0, 1, 0));
        Check.due(4, () -> never.tokens(0));
    }

    /** "'s' if the route has no canary, or the key is not less than its share" */
    private static void kindS() {
        CallGateway x = gateway(1, 100, 1);
        Check.due('s', () -> x.call(0, 1, 0));
        x.begin(0, 150, 1, 1);
        for (int share : new int[] {1, 2, 50, 99}) {
            x.setShare(0, share);
            Check.due('c', () -> x.call(0, 1, 0));
            Check.due('c', () -> x.call(0, 1, share - 1));
            Check.due('s', () -> x.call(0, 1, share));
            Check.due('s', () -> x.call(0, 1, 99));
        }
        x.setShare(0, 100);
        Check.due('c', () -> x.call(0, 1, 99));
        x.promote(0);
        Check.due('s', () -> x.call(0, 1, 0));
        x.begin(0, 0, 50, 1);
        Check.due('s', () -> x.call(0, 1, 50));
        x.takeBack(0);
        Check.due('s', () -> x.call(0, 1, 0));
    }

    /** "'c' if the answer of the canary does not break the contract": that of the stable version does not count. */
    private static void kindC() {
        CallGateway x = gateway(1, 100, 1);
        x.setAnswer(0, 500);
        for (int answer : new int[] {100, 101, 198, 199}) {
            x.begin(0, answer, 100, 1);
            Check.due('c', () -> x.call(0, 1, 0));
            x.promote(0);
            x.setAnswer(0, 0);
        }
        x.setContract(0, 7, 7);
        x.begin(0, 7, 100, 1);
        Check.due('c', () -> x.call(0, 1, 0));
    }

    /** "and otherwise 'f'" */
    private static void kindF() {
        CallGateway x = gateway(1, 100, 1);
        x.setAnswer(0, 150);
        for (int answer : new int[] {0, 99, 200, 999}) {
            x.begin(0, answer, 100, 2);
            Check.due('f', () -> x.call(0, 1, 99));
            Check.due(1, () -> x.faults(0));
            x.takeBack(0);
        }
    }

    /** "A call of the kind 's' or 'c' takes tokens, as many as the cost, and adds the cost times the price of the plan
     * to the bill of the caller." */
    private static void aCallTakesTokensAndAddsToTheBill() {
        for (int price : new int[] {0, 1, 99}) {
            for (int cost = 1; cost <= 5; cost++) {
                CallGateway x = new CallGateway();
                x.addRoute(1, cost, 0, 9);
                x.addPlan(1, 2 * cost, price);
                x.addCaller(0);
                x.addCaller(0);
                long added = (long) cost * price;
                int left = cost;
                Check.due('s', () -> x.call(0, 1, 0));
                Check.due(left, () -> x.tokens(0));
                Check.due(added, () -> x.bill(0));
                x.begin(0, 0, 100, 1);
                Check.due('c', () -> x.call(0, 1, 0));
                Check.due(0, () -> x.tokens(0));
                Check.due(2 * added, () -> x.bill(0));
                Check.due(2 * left, () -> x.tokens(1));
                Check.due(0L, () -> x.bill(1));
            }
        }
    }

    /** "One of the kind 'f' is answered by the stable version; it is a fault of the canary, and it takes no tokens and
     * adds nothing to the bill." */
    private static void aFaultTakesNothing() {
        CallGateway x = gateway(1, 1, 99);
        x.addRoute(1, 1, 0, 999);
        x.begin(0, 200, 100, 9);
        x.begin(1, 200, 100, 9);
        for (int i = 1; i <= 8; i++) {
            int number = i;
            Check.due('f', () -> x.call(0, 2, 0));
            Check.due(number, () -> x.faults(0));
            Check.due(1, () -> x.tokens(0));
            Check.due(0L, () -> x.bill(0));
        }
        Check.due(0L, () -> x.billByLog(0));
        Check.due(0, () -> x.faults(1));
        Check.due(8, () -> x.count(0, 'f'));
        Check.due(0, () -> x.count(0, 's'));
    }

    /** "When the faults of a canary reach its limit, it is taken back.": each limit, one below it and at it. */
    private static void theFaultsReachTheLimit() {
        for (int limit = 1; limit <= 9; limit++) {
            CallGateway x = gateway(1, 2, 10);
            x.setAnswer(0, 111);
            x.begin(0, 150, 100, limit);
            x.call(0, 1, 0);
            x.setContract(0, 100, 149);
            for (int fault = 1; fault < limit; fault++) {
                Check.due('f', () -> x.call(0, 1, 0));
            }
            Check.due(limit - 1, () -> x.faults(0));
            Check.due(false, () -> x.isUndone(0));
            Check.due(1, () -> x.tokens(0));
            Check.due('f', () -> x.call(0, 1, 0));
            Check.due(Check.NSEE, () -> x.faults(0));
            Check.due(true, () -> x.isUndone(0));
            Check.due(2, () -> x.tokens(0));
            Check.due(0L, () -> x.bill(0));
            Check.due('s', () -> x.call(0, 1, 0));
            Check.due(111, () -> x.setAnswer(0, 0));
        }
    }

    /** The same sentence: the faults of all callers count, and those of a canary before it don't. */
    private static void theFaultsOfAllCallersCount() {
        CallGateway x = gateway(1, 2, 10);
        x.addCaller(0);
        x.begin(0, 0, 100, 3);
        x.call(0, 1, 0);
        x.call(1, 1, 0);
        x.takeBack(0);
        x.begin(0, 0, 100, 3);
        Check.due('f', () -> x.call(0, 1, 0));
        Check.due('f', () -> x.call(1, 1, 0));
        Check.due(true, () -> x.hasCanary(0));
        Check.due('f', () -> x.call(1, 1, 0));
        Check.due(false, () -> x.hasCanary(0));
    }

    /** "When a canary is taken back, its calls of the kind 'c' are undone": none, one, many; and no other calls. */
    private static void itsCallsAreUndone() {
        CallGateway x = gateway(20, 100, 3);
        x.addRoute(1, 1, 0, 999);
        x.begin(0, 150, 50, 9);
        Check.due(0, () -> x.takeBack(0));
        x.begin(0, 150, 50, 9);
        x.begin(1, 150, 50, 9);
        char[] kinds = {'c', 's', 'c', 'c', 's', 'f'};
        int[] paths = {2, 2, 1, 2, 1, 2};
        int[] keys = {0, 50, 0, 49, 99, 0};
        for (int i = 0; i < 6; i++) {
            int number = i;
            if (number == 5) {
                x.setContract(0, 0, 1);
            }
            Check.due(kinds[number], () -> x.call(0, paths[number], keys[number]));
        }
        Check.due(2, () -> x.takeBack(0));
        dueUndone(x, true, false, false, true, false, false);
        x.begin(0, 0, 50, 9);
        Check.due('c', () -> x.call(0, 2, 0));
        Check.due(1, () -> x.takeBack(0));
        dueUndone(x, true, false, false, true, false, false, true);
        Check.due(1, () -> x.takeBack(1));
        dueUndone(x, true, false, true, true, false, false, true);
        Check.due(98, () -> x.tokens(0));
        Check.due(6L, () -> x.bill(0));
    }

    private static void dueUndone(CallGateway x, boolean... want) {
        for (int i = 0; i < want.length; i++) {
            int call = i;
            Check.due(want[call], () -> x.isUndone(call));
        }
        Check.due(Check.IOOBE, () -> x.isUndone(want.length));
    }

    /** "in their order: for each one, the caller gets the tokens back that it took, but to at most the burst": nearly
     * full, just full, and what would be more. */
    private static void theCallerGetsTheTokensBack() {
        int[] ticks = {0, 1, 2, 3, 4, 5, 6, 7};
        int[] after = {6, 7, 8, 9, 10, 10, 10, 10};
        for (int i = 0; i < ticks.length; i++) {
            CallGateway x = new CallGateway();
            x.addRoute(1, 3, 0, 9);
            x.addRoute(2, 4, 0, 9);
            x.addPlan(1, 10, 2);
            x.addCaller(0);
            x.call(0, 2, 0);
            x.begin(0, 5, 100, 1);
            x.call(0, 1, 0);
            x.call(0, 1, 0);
            if (ticks[i] > 0) {
                x.pass(ticks[i]);
            }
            int want = after[i];
            Check.due(2, () -> x.takeBack(0));
            Check.due(want, () -> x.tokens(0));
            Check.due(8L, () -> x.bill(0));
        }
    }

    /** "the burst that its plan has then": of a smaller plan, and of a greater one, not of the plan at the call. */
    private static void theBurstThatItsPlanHasThen() {
        CallGateway x = new CallGateway();
        x.addRoute(1, 5, 0, 9);
        x.addPlan(1, 10, 2);
        x.addPlan(1, 4, 2);
        x.addPlan(3, 13, 2);
        for (int i = 0; i < 3; i++) {
            x.addCaller(0);
        }
        x.begin(0, 5, 100, 1);
        for (int caller = 0; caller < 3; caller++) {
            x.call(caller, 1, 0);
        }
        x.setPlan(1, 1);
        x.setPlan(2, 2);
        x.pass(1);
        Check.due(6, () -> x.tokens(0));
        Check.due(4, () -> x.tokens(1));
        Check.due(8, () -> x.tokens(2));
        Check.due(3, () -> x.takeBack(0));
        Check.due(10, () -> x.tokens(0));
        Check.due(4, () -> x.tokens(1));
        Check.due(13, () -> x.tokens(2));
    }

    /** "and the bill decreases by what it added": at the price of then, to the cent, with other calls between. */
    private static void theBillDecreasesByWhatItAdded() {
        CallGateway x = new CallGateway();
        x.addRoute(1, 5, 0, 9);
        x.addPlan(20, 100, 99);
        x.addPlan(20, 100, 0);
        x.addPlan(20, 100, 1);
        x.addCaller(0);
        x.begin(0, 5, 50, 1);
        x.call(0, 1, 0);
        x.setPlan(0, 1);
        x.call(0, 1, 0);
        x.call(0, 1, 99);
        x.setPlan(0, 2);
        x.call(0, 1, 0);
        x.call(0, 1, 99);
        Check.due(505L, () -> x.bill(0));
        x.setPlan(0, 1);
        Check.due(3, () -> x.takeBack(0));
        Check.due(5L, () -> x.bill(0));
        Check.due(5L, () -> x.billByLog(0));
    }

    /** "When a canary becomes stable, its answers are those of the stable version from then on, and its calls are not
     * undone any more." */
    private static void aCanaryBecomesStable() {
        CallGateway x = gateway(1, 10, 4);
        x.begin(0, 150, 100, 1);
        x.call(0, 1, 0);
        Check.due('s', () -> x.broken(0));
        Check.due(150, () -> x.promote(0));
        Check.due('n', () -> x.broken(0));
        x.begin(0, 160, 100, 1);
        x.call(0, 1, 0);
        Check.due(1, () -> x.takeBack(0));
        dueUndone(x, false, true);
        x.begin(0, 999, 100, 1);
        Check.due('f', () -> x.call(0, 1, 0));
        dueUndone(x, false, true, false);
        Check.due(4L, () -> x.bill(0));
        Check.due(9, () -> x.tokens(0));
        Check.due(150, () -> x.setAnswer(0, 0));
    }

    /** "The log has an entry for each call, with its caller, its kind, the tokens that it took and what it added to the
     * bill, and whether it is undone.": for each kind, and none for a call that throws. */
    private static void theLogHasAnEntryForEachCall() {
        CallGateway x = new CallGateway();
        x.addRoute(1, 2, 0, 9);
        x.addPlan(1, 4, 10);
        x.addCaller(0);
        x.addCaller(0);
        Check.due(Check.IAE, () -> x.call(0, 10, 0));
        Check.due(Check.IAE, () -> x.call(0, 1, 100));
        Check.due(Check.IOOBE, () -> x.call(2, 1, 0));
        Check.due(0, () -> x.calls());
        x.begin(0, 5, 50, 9);
        char[] kinds = {'n', 'c', 's', 'l', 'f'};
        for (int i = 0; i < 5; i++) {
            int number = i;
            if (number == 4) {
                x.setContract(0, 0, 4);
                x.pass(2);
            }
            char kind = kinds[number];
            Check.due(kind, () -> x.call(0, number == 0 ? 2 : 1, number == 2 ? 99 : 0));
            Check.due(number + 1, () -> x.calls());
            Check.due(1, () -> x.count(0, kind));
            Check.due(0, () -> x.count(1, kind));
        }
        Check.due(40L, () -> x.billByLog(0));
        Check.due(2.0, () -> x.meanCost());
        x.takeBack(0);
        dueUndone(x, false, true, false, false, false);
        Check.due(5, () -> x.calls());
    }
}
