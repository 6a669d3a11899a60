/** Promises 21 to 25: calls and ticks. Above each test stands the sentence that it holds. */
public final class CallsTest {
    private static final int LOWEST = Integer.MIN_VALUE;
    private static final int HIGHEST = Integer.MAX_VALUE;
    private static final int[] NO_CALLERS = {2, 3, 5, 6, 7, 256, 65536, HIGHEST, -1, -2, -6, LOWEST};

    public static void main(String[] args) {
        callReturnsItsKind();
        callTakesTokensAndBills();
        callOfTheKindFault();
        callComparesTheKeyWithTheShare();
        callGoesToTheLongestRoute();
        callThrowsIfThereIsNoSuchCaller();
        callThrowsIfItIsNoPath();
        callThrowsIfTheKeyIsOutOfRange();
        passReturnsHowManyTokensAllGot();
        passOfManyTicksIsAsPassesOfOne();
        passThrowsIfOutOfRange();
        callsReturnsTheNumberOfEntries();
        callsCountsAsManyAsAnObjectCanGet();
        countReturnsTheNumberOfAKind();
        countCountsCallsUndoneOrNot();
        countThrowsIfThereIsNoSuchCaller();
        countThrowsIfThereIsNoSuchKind();
        isUndoneReturnsWhetherItIs();
        isUndoneTakesTheIndexOfTheEntry();
        isUndoneThrowsIfThereIsNoSuchCall();
        callsBeyondTheLogThrowNothing();
        Check.end();
    }

    /** Routes 0 (path 1, cost 2), 1 (path 12, cost 5); plan 0 (3, 9, 10); callers 0 and 1. */
    private static CallGateway gateway() {
        CallGateway x = new CallGateway();
        x.addRoute(1, 2, 100, 199);
        x.addRoute(12, 5, 100, 199);
        x.addPlan(3, 9, 10);
        x.addCaller(0);
        x.addCaller(0);
        return x;
    }

    /** Promise 21: "Returns its kind, 'n', 'l', 's', 'c' or 'f'." */
    private static void callReturnsItsKind() {
        CallGateway x = gateway();
        x.begin(1, 99, 100, 9);
        Check.due('f', () -> x.call(0, 12, 0));
        Check.due('s', () -> x.call(0, 1, 0));
        Check.due('s', () -> x.call(0, 1, 0));
        Check.due('f', () -> x.call(0, 12, 0));
        Check.due('s', () -> x.call(0, 1, 0));
        Check.due(3, () -> x.tokens(0));
        // Neither the key nor the canary is looked at before the tokens.
        Check.due('l', () -> x.call(0, 12, 0));
        Check.due(2, () -> x.faults(1));
        Check.due('n', () -> x.call(0, 2, 0));
        Check.due('n', () -> x.call(0, 0, 0));
        Check.due('s', () -> x.call(0, 1, 0));
        Check.due('l', () -> x.call(0, 1, 0));
        Check.due('n', () -> x.call(0, 2, 0));
        x.setContract(1, 0, 99);
        Check.due('c', () -> x.call(1, 12, 0));
    }

    private static void callTakesTokensAndBills() {
        CallGateway x = gateway();
        Check.due('s', () -> x.call(0, 12, 0));
        Check.due(4, () -> x.tokens(0));
        Check.due(50L, () -> x.bill(0));
        Check.due('l', () -> x.call(0, 12, 0));
        Check.due('n', () -> x.call(0, 2, 0));
        Check.due(4, () -> x.tokens(0));
        Check.due(50L, () -> x.bill(0));
        x.begin(0, 150, 100, 1);
        Check.due('c', () -> x.call(0, 1, 0));
        Check.due('c', () -> x.call(0, 1, 0));
        Check.due(0, () -> x.tokens(0));
        Check.due(90L, () -> x.bill(0));
        Check.due(9, () -> x.tokens(1));
        Check.due(0L, () -> x.bill(1));
    }

    private static void callOfTheKindFault() {
        CallGateway x = gateway();
        x.begin(0, 200, 100, 2);
        Check.due('f', () -> x.call(0, 1, 0));
        Check.due(1, () -> x.faults(0));
        Check.due(9, () -> x.tokens(0));
        Check.due(0L, () -> x.bill(0));
        x.setContract(0, 100, 200);
        Check.due('c', () -> x.call(0, 1, 0));
        x.setContract(0, 201, 300);
        Check.due('f', () -> x.call(1, 1, 0));
        Check.due(false, () -> x.hasCanary(0));
        Check.due(9, () -> x.tokens(0));
        Check.due(0L, () -> x.bill(0));
        Check.due('s', () -> x.call(1, 1, 0));
        Check.due(4, () -> x.calls());
    }

    private static void callComparesTheKeyWithTheShare() {
        CallGateway x = gateway();
        x.begin(0, 100, 1, 9);
        Check.due('c', () -> x.call(0, 1, 0));
        Check.due('s', () -> x.call(0, 1, 1));
        x.setShare(0, 99);
        Check.due('c', () -> x.call(1, 1, 98));
        Check.due('s', () -> x.call(1, 1, 99));
        x.setShare(0, 100);
        Check.due('c', () -> x.call(1, 1, 99));
    }

    private static void callGoesToTheLongestRoute() {
        CallGateway x = gateway();
        x.call(0, 1299, 0);
        Check.due(4, () -> x.tokens(0));
        x.call(1, 13, 0);
        Check.due(7, () -> x.tokens(1));
    }

    /** Promise 21: "Throws IndexOutOfBoundsException if there is no such caller" */
    private static void callThrowsIfThereIsNoSuchCaller() {
        CallGateway x = gateway();
        for (int caller : NO_CALLERS) {
            Check.due(Check.IOOBE, () -> x.call(caller, 1, 0));
            Check.due(Check.IOOBE, () -> x.call(caller, 10, 0));
            Check.due(Check.IOOBE, () -> x.call(caller, 1, 100));
        }
        Check.due(0, () -> x.calls());
        Check.due('s', () -> x.call(1, 1, 0));
    }

    /** Promise 21: "Throws IllegalArgumentException if it is no path, or the key is out of range": the path. */
    private static void callThrowsIfItIsNoPath() {
        CallGateway x = gateway();
        x.addRoute(0, 1, 0, 9);
        for (int path : new int[] {-1, -12, 10, 20, 101, 110, 1001, 1210, 10000, 11111, 65537, HIGHEST, LOWEST}) {
            Check.due(Check.IAE, () -> x.call(0, path, 0));
        }
        Check.due(0, () -> x.calls());
        Check.due('s', () -> x.call(0, 9999, 0));
        Check.due('s', () -> x.call(0, 0, 0));
    }

    /** Promise 21: "the key, 0 to 99", and the same sentence, whatever the path goes to and whatever the tokens are. */
    private static void callThrowsIfTheKeyIsOutOfRange() {
        CallGateway x = gateway();
        x.call(0, 12, 0);
        for (int key : new int[] {-1, -100, 100, 101, 256, 65536, HIGHEST, LOWEST}) {
            Check.due(Check.IAE, () -> x.call(0, 1, key));
            Check.due(Check.IAE, () -> x.call(0, 12, key));
            Check.due(Check.IAE, () -> x.call(0, 2, key));
        }
        Check.due(1, () -> x.calls());
        Check.due('s', () -> x.call(0, 1, 99));
        Check.due('n', () -> x.call(0, 9999, 99));
    }

    /** Promise 22: "Returns how many tokens all callers got.": none without callers, none when all are full. */
    private static void passReturnsHowManyTokensAllGot() {
        CallGateway x = new CallGateway();
        Check.due(0, () -> x.pass(100));
        x.addRoute(1, 5, 0, 0);
        x.addPlan(1, 100, 0);
        x.addPlan(20, 7, 0);
        Check.due(0, () -> x.pass(1));
        x.addCaller(0);
        x.addCaller(1);
        Check.due(0, () -> x.pass(1));
        for (int i = 0; i < 20; i++) {
            x.call(0, 1, 0);
        }
        x.call(1, 1, 0);
        Check.due(6, () -> x.pass(1));
        Check.due(1, () -> x.tokens(0));
        Check.due(7, () -> x.tokens(1));
        Check.due(2, () -> x.pass(2));
        Check.due(97, () -> x.pass(100));
        Check.due(100, () -> x.tokens(0));
        Check.due(0, () -> x.pass(100));
    }

    /** Promise 22: "Lets ticks pass.": many at once as one after the other, up to the most tokens that all can get. */
    private static void passOfManyTicksIsAsPassesOfOne() {
        for (int ticks : new int[] {1, 2, 3, 4, 5, 33, 99, 100}) {
            CallGateway atOnce = emptied();
            CallGateway oneByOne = emptied();
            int got = 0;
            for (int tick = 0; tick < ticks; tick++) {
                got += (Integer) Check.answerOf(() -> oneByOne.pass(1));
            }
            int sum = got;
            Check.due(sum, () -> atOnce.pass(ticks));
            for (int i = 0; i < 6; i++) {
                int caller = i;
                Check.due(Check.answerOf(() -> oneByOne.tokens(caller)), () -> atOnce.tokens(caller));
            }
        }
        CallGateway most = emptied();
        Check.due(2 * (100 + 100 + 5), () -> most.pass(100));
    }

    /** Six callers without tokens, two of each plan. */
    private static CallGateway emptied() {
        CallGateway x = new CallGateway();
        x.addRoute(0, 5, 0, 0);
        x.addPlan(1, 100, 0);
        x.addPlan(20, 100, 0);
        x.addPlan(3, 5, 0);
        for (int caller = 0; caller < 6; caller++) {
            x.addCaller(caller % 3);
            for (int i = 0; i < 20; i++) {
                x.call(caller, 0, 0);
            }
        }
        return x;
    }

    /** Promise 22: "the number of ticks, 1 to 100", "Throws IllegalArgumentException if the number is out of range" */
    private static void passThrowsIfOutOfRange() {
        CallGateway x = gateway();
        x.call(0, 12, 0);
        for (int ticks : new int[] {0, -1, -100, 101, 256, 257, 65537, 1 << 30, HIGHEST, LOWEST}) {
            Check.due(Check.IAE, () -> x.pass(ticks));
            Check.due(Check.IAE, () -> new CallGateway().pass(ticks));
        }
        Check.due(4, () -> x.tokens(0));
        Check.due(3, () -> x.pass(1));
        Check.due(2, () -> x.pass(100));
    }

    /** Promise 23: "Returns the number of calls.", "Returns the number of entries of the log.": of all kinds. */
    private static void callsReturnsTheNumberOfEntries() {
        CallGateway x = gateway();
        Check.due(0, () -> x.calls());
        x.call(0, 1, 0);
        Check.due(1, () -> x.calls());
        x.call(0, 2, 0);
        x.call(1, 12, 0);
        x.call(1, 12, 0);
        Check.due(4, () -> x.calls());
        x.begin(0, 99, 100, 2);
        x.call(1, 1, 0);
        x.setContract(0, 99, 99);
        x.call(1, 1, 0);
        Check.due(6, () -> x.calls());
        x.takeBack(0);
        x.pass(100);
        Check.due(Check.IAE, () -> x.call(0, 1, 100));
        Check.due(6, () -> x.calls());
    }

    /** A plan and a caller, then calls, and two looks: 512 calls of the object in all. */
    private static void callsCountsAsManyAsAnObjectCanGet() {
        CallGateway x = new CallGateway();
        x.addPlan(1, 1, 1);
        x.addCaller(0);
        for (int i = 0; i < 508; i++) {
            x.call(0, 0, 0);
        }
        Check.due(508, () -> x.calls());
        Check.due(508, () -> x.count(0, 'n'));
    }

    /** Calls of caller 0: 'n' twice, 'l' once, 's' twice, 'c' once, 'f' three times; of caller 1: 'c' once. */
    private static CallGateway withAllKinds() {
        CallGateway x = gateway();
        x.call(0, 2, 0);
        x.call(0, 2, 0);
        x.call(0, 12, 0);
        x.call(0, 12, 0);
        x.begin(0, 150, 50, 9);
        x.call(0, 1, 0);
        x.call(0, 1, 50);
        x.pass(9);
        x.call(1, 1, 0);
        x.setContract(0, 0, 0);
        x.call(0, 1, 0);
        x.call(0, 1, 1);
        x.call(0, 1, 2);
        return x;
    }

    private static void dueCounts(CallGateway x, int caller, int... want) {
        char[] kinds = {'n', 'l', 's', 'c', 'f'};
        for (int i = 0; i < 5; i++) {
            char kind = kinds[i];
            Check.due(want[i], () -> x.count(caller, kind));
        }
    }

    /** Promise 24: "Returns the number of calls of a kind of a caller." */
    private static void countReturnsTheNumberOfAKind() {
        dueCounts(gateway(), 0, 0, 0, 0, 0, 0);
        CallGateway x = withAllKinds();
        dueCounts(x, 0, 2, 1, 2, 1, 3);
        dueCounts(x, 1, 0, 0, 0, 1, 0);
    }

    /** Promise 24: "Returns the number of calls, undone or not." */
    private static void countCountsCallsUndoneOrNot() {
        CallGateway x = withAllKinds();
        Check.due(2, () -> x.takeBack(0));
        dueCounts(x, 0, 2, 1, 2, 1, 3);
        dueCounts(x, 1, 0, 0, 0, 1, 0);
    }

    /** Promise 24: "Throws IndexOutOfBoundsException if there is no such caller" */
    private static void countThrowsIfThereIsNoSuchCaller() {
        CallGateway x = withAllKinds();
        for (int caller : NO_CALLERS) {
            dueThrows(x, caller, 's', Check.IOOBE);
            dueThrows(x, caller, 'x', Check.IOOBE);
        }
    }

    /** Promise 24: "the kind, 'n', 'l', 's', 'c' or 'f'", "Throws IllegalArgumentException if there is no such kind" */
    private static void countThrowsIfThereIsNoSuchKind() {
        CallGateway x = withAllKinds();
        int throwing = 0;
        for (int sign = 0; sign < 128; sign++) {
            if ("nlscf".indexOf(sign) < 0) {
                dueThrows(x, 0, (char) sign, Check.IAE);
                throwing++;
            }
        }
        Check.same("signs that are no kind", 123, throwing);
        for (char kind : "nlscf".toCharArray()) {
            dueThrows(x, 0, (char) (kind + 256), Check.IAE);
            dueThrows(x, 1, (char) (kind - 1), Check.IAE);
        }
        dueThrows(x, 0, (char) 65535, Check.IAE);
    }

    private static void dueThrows(CallGateway x, int caller, char kind, String exception) {
        Check.due(exception, () -> x.count(caller, kind));
    }

    /** Promise 25: "Returns whether it is.": of each kind, before and after. */
    private static void isUndoneReturnsWhetherItIs() {
        CallGateway x = gateway();
        x.begin(0, 150, 50, 1);
        x.call(0, 1, 0);
        x.call(0, 1, 50);
        x.call(0, 2, 0);
        x.call(0, 12, 0);
        x.call(0, 12, 0);
        for (int i = 0; i < 5; i++) {
            int call = i;
            Check.due(false, () -> x.isUndone(call));
        }
        x.setContract(0, 0, 0);
        Check.due('f', () -> x.call(1, 1, 0));
        Check.due(true, () -> x.isUndone(0));
        for (int i = 1; i < 6; i++) {
            int call = i;
            Check.due(false, () -> x.isUndone(call));
        }
    }

    /** Promise 25: "the index of its entry, 0 for the first one": in the order of the calls, of all callers. */
    private static void isUndoneTakesTheIndexOfTheEntry() {
        CallGateway x = new CallGateway();
        x.addRoute(1, 1, 0, 9);
        x.addPlan(1, 100, 1);
        x.addCaller(0);
        x.addCaller(0);
        x.begin(0, 5, 50, 1);
        for (int i = 0; i < 100; i++) {
            x.call(i % 2, 1, i % 3 == 0 ? 0 : 50);
        }
        x.takeBack(0);
        for (int i = 0; i < 100; i++) {
            int call = i;
            Check.due(call % 3 == 0, () -> x.isUndone(call));
        }
    }

    /** Promise 25: "Throws IndexOutOfBoundsException if there is no such call": none, one, and more of them. */
    private static void isUndoneThrowsIfThereIsNoSuchCall() {
        CallGateway x = gateway();
        for (int calls = 0; calls < 10; calls++) {
            int number = calls;
            Check.due(Check.IOOBE, () -> x.isUndone(number));
            for (int call : new int[] {number + 1, 10, 256, 511, 512, 513, 65536, HIGHEST, -1, -512, LOWEST}) {
                Check.due(Check.IOOBE, () -> x.isUndone(call));
            }
            x.call(0, 9, 0);
            Check.due(false, () -> x.isUndone(number));
        }
        Check.due(Check.IAE, () -> x.call(0, 9, 100));
        Check.due(Check.IOOBE, () -> x.isUndone(10));
    }

    /** What these calls answer is free, but LANGUAGE.md wants that none throws by itself. */
    private static void callsBeyondTheLogThrowNothing() {
        CallGateway x = gateway();
        String threw = "";
        for (int i = 0; i < 3000; i++) {
            int key = i % 100;
            x.pass(1 + key);
            if (!x.hasCanary(0)) {
                x.begin(0, 150 + i % 70, 50, 3);
            }
            Object answer = Check.answerOf(() -> x.call(0, 1, key));
            if (!(answer instanceof Character)) {
                threw = threw + " " + answer;
            }
        }
        Check.same("calls beyond the log", "", threw);
        Check.due(Check.IOOBE, () -> x.call(2, 1, 0));
        Check.due(Check.IAE, () -> x.call(0, 10, 0));
        Check.due(x.bill(0), () -> x.billByLog(0));
    }
}
