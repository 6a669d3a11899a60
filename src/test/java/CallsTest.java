/** Promises 21 to 25: calls and ticks. */
public final class CallsTest {
    public static void main(String[] args) {
        callKindsInTheirOrder();
        callTakesTokensAndBills();
        callOfTheKindFault();
        callComparesTheKeyWithTheShare();
        callRefuses();
        callGoesToTheLongestRoute();
        pass();
        passRefuses();
        callsCountsAllEntries();
        callsCountsAsManyAsAnObjectCanGet();
        count();
        isUndone();
        callsBeyondTheLogThrowNothing();
        Check.end();
    }

    /** Routes 0 (path 1, cost 2), 1 (path 12, cost 5); plan 0 (3, 9, 10); callers 0 and 1. */
    private static CallGateway gateway() {
        CallGateway x = new CallGateway();
        x.addRoute(1, 2, 100, 199);
        x.addRoute(12, 5, 100, 199);
        x.addPlan(3, 9, 10);
        x.addCaller(0);
        x.addCaller(0);
        return x;
    }

    private static void callKindsInTheirOrder() {
        CallGateway x = gateway();
        x.begin(1, 99, 100, 9);
        Check.due('f', () -> x.call(0, 12, 0));
        Check.due('s', () -> x.call(0, 1, 0));
        Check.due('s', () -> x.call(0, 1, 0));
        Check.due('f', () -> x.call(0, 12, 0));
        Check.due('s', () -> x.call(0, 1, 0));
        Check.due(3, () -> x.tokens(0));
        // Neither the key nor the canary is looked at before the tokens.
        Check.due('l', () -> x.call(0, 12, 0));
        Check.due(2, () -> x.faults(1));
        Check.due('n', () -> x.call(0, 2, 0));
        Check.due('n', () -> x.call(0, 0, 0));
        Check.due('s', () -> x.call(0, 1, 0));
        Check.due('l', () -> x.call(0, 1, 0));
        Check.due('n', () -> x.call(0, 2, 0));
    }

    private static void callTakesTokensAndBills() {
        CallGateway x = gateway();
        Check.due('s', () -> x.call(0, 12, 0));
        Check.due(4, () -> x.tokens(0));
        Check.due(50L, () -> x.bill(0));
        Check.due('l', () -> x.call(0, 12, 0));
        Check.due('n', () -> x.call(0, 2, 0));
        Check.due(4, () -> x.tokens(0));
        Check.due(50L, () -> x.bill(0));
        x.begin(0, 150, 100, 1);
        Check.due('c', () -> x.call(0, 1, 0));
        Check.due('c', () -> x.call(0, 1, 0));
        Check.due(0, () -> x.tokens(0));
        Check.due(90L, () -> x.bill(0));
        Check.due(9, () -> x.tokens(1));
        Check.due(0L, () -> x.bill(1));
    }

    private static void callOfTheKindFault() {
        CallGateway x = gateway();
        x.begin(0, 200, 100, 2);
        Check.due('f', () -> x.call(0, 1, 0));
        Check.due(1, () -> x.faults(0));
        Check.due(9, () -> x.tokens(0));
        Check.due(0L, () -> x.bill(0));
        x.setContract(0, 100, 200);
        Check.due('c', () -> x.call(0, 1, 0));
        x.setContract(0, 201, 300);
        Check.due('f', () -> x.call(1, 1, 0));
        Check.due(false, () -> x.hasCanary(0));
        Check.due(9, () -> x.tokens(0));
        Check.due(0L, () -> x.bill(0));
        Check.due('s', () -> x.call(1, 1, 0));
        Check.due(4, () -> x.calls());
    }

    private static void callComparesTheKeyWithTheShare() {
        CallGateway x = gateway();
        x.begin(0, 100, 1, 9);
        Check.due('c', () -> x.call(0, 1, 0));
        Check.due('s', () -> x.call(0, 1, 1));
        x.setShare(0, 99);
        Check.due('c', () -> x.call(1, 1, 98));
        Check.due('s', () -> x.call(1, 1, 99));
        x.setShare(0, 100);
        Check.due('c', () -> x.call(1, 1, 99));
    }

    private static void callRefuses() {
        CallGateway x = gateway();
        Check.due(Check.IOOBE, () -> x.call(2, 1, 0));
        Check.due(Check.IOOBE, () -> x.call(-1, 1, 0));
        Check.due(Check.IOOBE, () -> x.call(6, 10, 100));
        Check.due(Check.IAE, () -> x.call(0, 10, 0));
        Check.due(Check.IAE, () -> x.call(0, -1, 0));
        Check.due(Check.IAE, () -> x.call(0, 10000, 0));
        Check.due(Check.IAE, () -> x.call(0, 11111, 0));
        Check.due(Check.IAE, () -> x.call(0, 1, -1));
        Check.due(Check.IAE, () -> x.call(0, 1, 100));
        Check.due(Check.IAE, () -> x.call(0, 2, 100));
        Check.due(0, () -> x.calls());
        Check.due('s', () -> x.call(0, 1, 99));
        Check.due('n', () -> x.call(0, 9999, 99));
    }

    private static void callGoesToTheLongestRoute() {
        CallGateway x = gateway();
        x.call(0, 1299, 0);
        Check.due(4, () -> x.tokens(0));
        x.call(1, 13, 0);
        Check.due(7, () -> x.tokens(1));
    }

    private static void pass() {
        CallGateway x = new CallGateway();
        Check.due(0, () -> x.pass(100));
        x.addRoute(1, 5, 0, 0);
        x.addPlan(1, 100, 0);
        x.addPlan(20, 7, 0);
        x.addCaller(0);
        x.addCaller(1);
        Check.due(0, () -> x.pass(1));
        for (int i = 0; i < 20; i++) {
            x.call(0, 1, 0);
        }
        x.call(1, 1, 0);
        Check.due(6, () -> x.pass(1));
        Check.due(1, () -> x.tokens(0));
        Check.due(7, () -> x.tokens(1));
        Check.due(2, () -> x.pass(2));
        Check.due(97, () -> x.pass(100));
        Check.due(100, () -> x.tokens(0));
        Check.due(0, () -> x.pass(100));
    }

    private static void passRefuses() {
        CallGateway x = gateway();
        x.call(0, 12, 0);
        Check.due(Check.IAE, () -> x.pass(0));
        Check.due(Check.IAE, () -> x.pass(-1));
        Check.due(Check.IAE, () -> x.pass(101));
        Check.due(Check.IAE, () -> x.pass(Integer.MAX_VALUE));
        Check.due(4, () -> x.tokens(0));
        Check.due(5, () -> x.pass(100));
    }

    private static void callsCountsAllEntries() {
        CallGateway x = gateway();
        Check.due(0, () -> x.calls());
        x.call(0, 1, 0);
        x.call(0, 2, 0);
        x.call(1, 12, 0);
        x.call(1, 12, 0);
        Check.due(4, () -> x.calls());
        x.begin(0, 99, 100, 1);
        x.call(1, 1, 0);
        Check.due(5, () -> x.calls());
    }

    /** A plan and a caller, then calls, and two looks: 512 calls of the object in all. */
    private static void callsCountsAsManyAsAnObjectCanGet() {
        CallGateway x = new CallGateway();
        x.addPlan(1, 1, 1);
        x.addCaller(0);
        for (int i = 0; i < 508; i++) {
            x.call(0, 0, 0);
        }
        Check.due(508, () -> x.calls());
        Check.due(508, () -> x.count(0, 'n'));
    }

    private static void count() {
        CallGateway x = gateway();
        x.call(0, 2, 0);
        x.call(0, 2, 0);
        x.call(0, 12, 0);
        x.call(0, 12, 0);
        x.begin(0, 150, 50, 9);
        x.call(0, 1, 0);
        x.call(0, 1, 50);
        x.pass(9);
        x.call(1, 1, 0);
        x.setContract(0, 0, 0);
        x.call(0, 1, 0);
        x.call(0, 1, 1);
        x.call(0, 1, 2);
        dueCounts(x);
        x.takeBack(0);
        dueCounts(x);
        Check.due(Check.IAE, () -> x.count(0, 'x'));
        Check.due(Check.IAE, () -> x.count(0, 'b'));
        Check.due(Check.IAE, () -> x.count(0, 'C'));
        Check.due(Check.IAE, () -> x.count(0, (char) 0));
        Check.due(Check.IAE, () -> x.count(0, (char) 65535));
        Check.due(Check.IOOBE, () -> x.count(2, 's'));
        Check.due(Check.IOOBE, () -> x.count(-1, 'x'));
        Check.due(Check.IOOBE, () -> x.count(6, 's'));
    }

    private static void dueCounts(CallGateway x) {
        Check.due(2, () -> x.count(0, 'n'));
        Check.due(1, () -> x.count(0, 'l'));
        Check.due(2, () -> x.count(0, 's'));
        Check.due(1, () -> x.count(0, 'c'));
        Check.due(3, () -> x.count(0, 'f'));
        Check.due(0, () -> x.count(1, 'n'));
        Check.due(1, () -> x.count(1, 'c'));
    }

    private static void isUndone() {
        CallGateway x = gateway();
        Check.due(Check.IOOBE, () -> x.isUndone(0));
        x.begin(0, 150, 50, 1);
        x.call(0, 1, 0);
        x.call(0, 1, 50);
        x.call(0, 2, 0);
        Check.due(false, () -> x.isUndone(0));
        x.setContract(0, 0, 0);
        x.call(0, 1, 0);
        Check.due(true, () -> x.isUndone(0));
        Check.due(false, () -> x.isUndone(1));
        Check.due(false, () -> x.isUndone(2));
        Check.due(false, () -> x.isUndone(3));
        Check.due(Check.IOOBE, () -> x.isUndone(4));
        Check.due(Check.IOOBE, () -> x.isUndone(-1));
        Check.due(Check.IOOBE, () -> x.isUndone(512));
        Check.due(Check.IOOBE, () -> x.isUndone(Integer.MAX_VALUE));
        Check.due(Check.IOOBE, () -> x.isUndone(Integer.MIN_VALUE));
    }

    /** What these calls answer is free, but LANGUAGE.md wants that none throws by itself. */
    private static void callsBeyondTheLogThrowNothing() {
        CallGateway x = gateway();
        String threw = "";
        for (int i = 0; i < 3000; i++) {
            int key = i % 100;
            x.pass(1 + key);
            if (!x.hasCanary(0)) {
                x.begin(0, 150 + i % 70, 50, 3);
            }
            Object answer = Check.answerOf(() -> x.call(0, 1, key));
            if (!(answer instanceof Character)) {
                threw = threw + " " + answer;
            }
        }
        Check.same("calls beyond the log", "", threw);
        Check.due(Check.IOOBE, () -> x.call(2, 1, 0));
        Check.due(Check.IAE, () -> x.call(0, 10, 0));
        Check.due(x.bill(0), () -> x.billByLog(0));
    }
}
