/** Promises 8 to 13: canaries. */
public final class CanariesTest {
    public static void main(String[] args) {
        beginCountsTheCanaries();
        beginRefuses();
        beginStartsWithoutFaults();
        setShare();
        promote();
        promotedCallsStay();
        takeBack();
        takeBackUndoesTheCallsOfThatCanaryAlone();
        takeBackLeavesAllOtherKinds();
        takeBackReachesAllCallers();
        takeBackGivesToTheBurstThen();
        takeBackTakesOffWhatWasAddedThen();
        hasCanary();
        faults();
        faultsReachTheLimit();
        Check.end();
    }

    /** Routes 0 (path 1, cost 2), 1 (path 2, cost 3); plans 0 (5, 20, 10), 1 (1, 4, 7); callers 0 and 1 of plan 0. */
    private static CallGateway gateway() {
        CallGateway x = new CallGateway();
        x.addRoute(1, 2, 100, 199);
        x.addRoute(2, 3, 0, 999);
        x.addPlan(5, 20, 10);
        x.addPlan(1, 4, 7);
        x.addCaller(0);
        x.addCaller(0);
        return x;
    }

    private static void beginCountsTheCanaries() {
        CallGateway x = gateway();
        Check.due(1, () -> x.begin(1, 0, 1, 1));
        Check.due(2, () -> x.begin(0, 999, 100, 9));
        x.takeBack(1);
        Check.due(2, () -> x.begin(1, 0, 1, 1));
        x.promote(0);
        x.promote(1);
        Check.due(1, () -> x.begin(0, 5, 5, 5));
    }

    private static void beginRefuses() {
        CallGateway x = gateway();
        Check.due(Check.IAE, () -> x.begin(0, -1, 1, 1));
        Check.due(Check.IAE, () -> x.begin(0, 1000, 1, 1));
        Check.due(Check.IAE, () -> x.begin(0, 0, 0, 1));
        Check.due(Check.IAE, () -> x.begin(0, 0, 101, 1));
        Check.due(Check.IAE, () -> x.begin(0, 0, 1, 0));
        Check.due(Check.IAE, () -> x.begin(0, 0, 1, 10));
        Check.due(Check.IOOBE, () -> x.begin(2, 0, 1, 1));
        Check.due(Check.IOOBE, () -> x.begin(-1, -1, 0, 0));
        Check.due(Check.IOOBE, () -> x.begin(8, 0, 1, 1));
        Check.due(false, () -> x.hasCanary(0));
        Check.due(1, () -> x.begin(0, 0, 1, 1));
        Check.due(Check.ISE, () -> x.begin(0, 0, 1, 1));
        Check.due(Check.IAE, () -> x.begin(0, 0, 101, 1));
        Check.due(Check.IOOBE, () -> x.begin(2, 0, 101, 1));
        Check.due(2, () -> x.begin(1, 0, 1, 1));
    }

    private static void beginStartsWithoutFaults() {
        CallGateway x = gateway();
        x.begin(0, 5, 100, 3);
        x.call(0, 1, 0);
        Check.due(1, () -> x.faults(0));
        x.takeBack(0);
        x.begin(0, 5, 100, 3);
        Check.due(0, () -> x.faults(0));
    }

    private static void setShare() {
        CallGateway x = gateway();
        Check.due(Check.ISE, () -> x.setShare(0, 5));
        Check.due(Check.IAE, () -> x.setShare(0, 0));
        x.begin(0, 150, 40, 2);
        Check.due(40, () -> x.setShare(0, 1));
        Check.due(1, () -> x.setShare(0, 100));
        Check.due(100, () -> x.setShare(0, 7));
        Check.due(Check.IAE, () -> x.setShare(0, 0));
        Check.due(Check.IAE, () -> x.setShare(0, 101));
        Check.due(Check.IAE, () -> x.setShare(0, -5));
        Check.due(Check.IAE, () -> x.setShare(1, 101));
        Check.due(Check.ISE, () -> x.setShare(1, 100));
        Check.due(Check.IOOBE, () -> x.setShare(2, 5));
        Check.due(Check.IOOBE, () -> x.setShare(-1, 500));
        Check.due('c', () -> x.call(0, 1, 6));
        Check.due('s', () -> x.call(0, 1, 7));
        Check.due(7, () -> x.setShare(0, 8));
        Check.due('c', () -> x.call(0, 1, 7));
    }

    private static void promote() {
        CallGateway x = gateway();
        x.setAnswer(0, 111);
        Check.due(Check.ISE, () -> x.promote(0));
        Check.due(Check.IOOBE, () -> x.promote(2));
        Check.due(Check.IOOBE, () -> x.promote(-1));
        x.begin(0, 500, 10, 2);
        Check.due('c', () -> x.broken(0));
        Check.due(500, () -> x.promote(0));
        Check.due('s', () -> x.broken(0));
        Check.due(false, () -> x.hasCanary(0));
        Check.due(Check.ISE, () -> x.promote(0));
        Check.due(500, () -> x.setAnswer(0, 0));
    }

    private static void promotedCallsStay() {
        CallGateway x = gateway();
        x.begin(0, 150, 100, 1);
        x.call(0, 1, 0);
        x.promote(0);
        Check.due(18, () -> x.tokens(0));
        Check.due(20L, () -> x.bill(0));
        Check.due(Check.ISE, () -> x.takeBack(0));
        x.begin(0, 150, 100, 1);
        Check.due(0, () -> x.takeBack(0));
        Check.due(false, () -> x.isUndone(0));
        Check.due(20L, () -> x.bill(0));
        x.begin(0, 0, 100, 1);
        Check.due('f', () -> x.call(0, 1, 0));
        Check.due(false, () -> x.isUndone(0));
        Check.due(20L, () -> x.billByLog(0));
    }

    private static void takeBack() {
        CallGateway x = gateway();
        Check.due(Check.ISE, () -> x.takeBack(0));
        Check.due(Check.IOOBE, () -> x.takeBack(2));
        Check.due(Check.IOOBE, () -> x.takeBack(-1));
        x.setAnswer(0, 111);
        x.begin(0, 150, 50, 9);
        Check.due('c', () -> x.call(0, 1, 49));
        Check.due('s', () -> x.call(0, 1, 50));
        Check.due('c', () -> x.call(0, 12, 0));
        Check.due(14, () -> x.tokens(0));
        Check.due(60L, () -> x.bill(0));
        Check.due(2, () -> x.takeBack(0));
        Check.due(18, () -> x.tokens(0));
        Check.due(20L, () -> x.bill(0));
        Check.due(20L, () -> x.billByLog(0));
        Check.due(true, () -> x.isUndone(0));
        Check.due(false, () -> x.isUndone(1));
        Check.due(true, () -> x.isUndone(2));
        Check.due(false, () -> x.hasCanary(0));
        Check.due(Check.ISE, () -> x.takeBack(0));
        Check.due(111, () -> x.setAnswer(0, 0));
        Check.due(3, () -> x.calls());
        Check.due(2, () -> x.count(0, 'c'));
    }

    private static void takeBackUndoesTheCallsOfThatCanaryAlone() {
        CallGateway x = gateway();
        x.begin(0, 150, 100, 9);
        x.begin(1, 150, 100, 9);
        x.call(0, 1, 0);
        x.call(0, 2, 0);
        Check.due(1, () -> x.takeBack(0));
        Check.due(true, () -> x.isUndone(0));
        Check.due(false, () -> x.isUndone(1));
        x.begin(0, 150, 100, 9);
        x.call(0, 1, 0);
        Check.due(1, () -> x.takeBack(0));
        Check.due(17, () -> x.tokens(0));
        Check.due(30L, () -> x.bill(0));
        Check.due(1, () -> x.takeBack(1));
        Check.due(20, () -> x.tokens(0));
        Check.due(0L, () -> x.bill(0));
    }

    private static void takeBackLeavesAllOtherKinds() {
        CallGateway x = gateway();
        x.call(0, 1, 0);
        x.call(0, 9, 0);
        for (int canary = 0; canary < 5; canary++) {
            x.begin(0, 99, 50, 9);
            x.call(1, 1, 50);
            x.call(1, 1, 0);
            Check.due(0, () -> x.takeBack(0));
        }
        Check.due(18, () -> x.tokens(0));
        Check.due(10, () -> x.tokens(1));
        Check.due(20L, () -> x.bill(0));
        Check.due(100L, () -> x.billByLog(1));
        for (int i = 0; i < 12; i++) {
            int call = i;
            Check.due(false, () -> x.isUndone(call));
        }
    }

    private static void takeBackReachesAllCallers() {
        CallGateway x = gateway();
        x.begin(1, 150, 100, 9);
        x.call(0, 2, 0);
        x.call(1, 2, 0);
        x.call(1, 2, 0);
        Check.due(60L, () -> x.bill(1));
        Check.due(3, () -> x.takeBack(1));
        Check.due(20, () -> x.tokens(0));
        Check.due(20, () -> x.tokens(1));
        Check.due(0L, () -> x.bill(0));
        Check.due(0L, () -> x.billByLog(1));
    }

    private static void takeBackGivesToTheBurstThen() {
        CallGateway x = gateway();
        x.begin(1, 150, 100, 9);
        x.call(0, 2, 0);
        x.call(0, 2, 0);
        x.call(1, 2, 0);
        x.pass(1);
        Check.due(19, () -> x.tokens(0));
        Check.due(20, () -> x.tokens(1));
        Check.due(15, () -> x.setPlan(0, 1));
        x.call(0, 1, 0);
        Check.due(2, () -> x.tokens(0));
        Check.due(3, () -> x.takeBack(1));
        Check.due(4, () -> x.tokens(0));
        Check.due(20, () -> x.tokens(1));
    }

    private static void takeBackTakesOffWhatWasAddedThen() {
        CallGateway x = gateway();
        x.begin(0, 150, 100, 9);
        x.call(0, 1, 0);
        x.setPlan(0, 1);
        x.call(0, 1, 0);
        Check.due(34L, () -> x.bill(0));
        x.setPlan(0, 0);
        Check.due(2, () -> x.takeBack(0));
        Check.due(0L, () -> x.bill(0));
        Check.due(6, () -> x.tokens(0));
    }

    private static void hasCanary() {
        CallGateway x = gateway();
        Check.due(false, () -> x.hasCanary(0));
        x.begin(0, 150, 100, 9);
        Check.due(true, () -> x.hasCanary(0));
        Check.due(false, () -> x.hasCanary(1));
        Check.due(Check.IOOBE, () -> x.hasCanary(2));
        Check.due(Check.IOOBE, () -> x.hasCanary(-1));
        Check.due(Check.IOOBE, () -> x.hasCanary(8));
    }

    private static void faults() {
        CallGateway x = gateway();
        Check.due(Check.NSEE, () -> x.faults(0));
        Check.due(Check.IOOBE, () -> x.faults(2));
        Check.due(Check.IOOBE, () -> x.faults(-1));
        x.begin(0, 99, 50, 9);
        Check.due(0, () -> x.faults(0));
        x.call(0, 1, 49);
        Check.due(1, () -> x.faults(0));
        x.call(0, 1, 50);
        Check.due(1, () -> x.faults(0));
        x.setContract(0, 99, 99);
        x.call(0, 1, 0);
        Check.due(1, () -> x.faults(0));
        x.setContract(0, 0, 98);
        x.call(1, 1, 0);
        Check.due(2, () -> x.faults(0));
        x.promote(0);
        Check.due(Check.NSEE, () -> x.faults(0));
    }

    private static void faultsReachTheLimit() {
        CallGateway x = gateway();
        x.setAnswer(0, 120);
        x.begin(0, 150, 100, 2);
        Check.due('c', () -> x.call(0, 1, 0));
        Check.due('c', () -> x.call(1, 1, 99));
        x.setContract(0, 100, 149);
        Check.due('f', () -> x.call(0, 1, 0));
        Check.due(true, () -> x.hasCanary(0));
        Check.due(20L, () -> x.bill(0));
        Check.due(false, () -> x.isUndone(0));
        Check.due('f', () -> x.call(0, 1, 0));
        Check.due(false, () -> x.hasCanary(0));
        Check.due(Check.NSEE, () -> x.faults(0));
        Check.due(true, () -> x.isUndone(0));
        Check.due(true, () -> x.isUndone(1));
        Check.due(false, () -> x.isUndone(2));
        Check.due(false, () -> x.isUndone(3));
        Check.due(20, () -> x.tokens(0));
        Check.due(20, () -> x.tokens(1));
        Check.due(0L, () -> x.bill(0));
        Check.due(0L, () -> x.bill(1));
        Check.due('s', () -> x.call(0, 1, 0));
        Check.due(120, () -> x.setAnswer(0, 0));
        Check.due(1, () -> x.begin(0, 500, 100, 1));
        Check.due('f', () -> x.call(0, 1, 0));
        Check.due(false, () -> x.hasCanary(0));
    }
}
