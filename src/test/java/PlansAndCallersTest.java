/** Promises 14 to 20: plans and callers. */
public final class PlansAndCallersTest {
    public static void main(String[] args) {
        addPlan();
        addPlanRefuses();
        addCaller();
        addCallerRefuses();
        setPlan();
        setPlanRefuses();
        tokens();
        ticksUntil();
        ticksUntilAtTheLeastRate();
        ticksUntilNeedsTheBurst();
        bills();
        billsOfManyCalls();
        Check.end();
    }

    private static void addPlan() {
        CallGateway x = new CallGateway();
        Check.due(0, () -> x.addPlan(1, 1, 0));
        Check.due(1, () -> x.addPlan(20, 100, 99));
        Check.due(2, () -> x.addPlan(1, 1, 0));
        Check.due(Check.ISE, () -> x.addPlan(1, 1, 0));
        Check.due(Check.IAE, () -> x.addPlan(0, 1, 0));
        Check.due(Check.IOOBE, () -> x.addCaller(3));
        x.addCaller(1);
        Check.due(100, () -> x.tokens(0));
        x.addRoute(0, 5, 0, 0);
        x.call(0, 0, 0);
        Check.due(495L, () -> x.bill(0));
    }

    private static void addPlanRefuses() {
        CallGateway x = new CallGateway();
        Check.due(Check.IAE, () -> x.addPlan(0, 1, 0));
        Check.due(Check.IAE, () -> x.addPlan(21, 1, 0));
        Check.due(Check.IAE, () -> x.addPlan(1, 0, 0));
        Check.due(Check.IAE, () -> x.addPlan(1, 101, 0));
        Check.due(Check.IAE, () -> x.addPlan(1, 1, -1));
        Check.due(Check.IAE, () -> x.addPlan(1, 1, 100));
        Check.due(Check.IAE, () -> x.addPlan(Integer.MIN_VALUE, 1, 0));
        Check.due(Check.IAE, () -> x.addPlan(1, Integer.MAX_VALUE, 0));
        Check.due(0, () -> x.addPlan(1, 1, 0));
    }

    private static void addCaller() {
        CallGateway x = new CallGateway();
        x.addPlan(1, 7, 0);
        x.addPlan(1, 9, 0);
        Check.due(0, () -> x.addCaller(1));
        Check.due(1, () -> x.addCaller(0));
        Check.due(9, () -> x.tokens(0));
        Check.due(7, () -> x.tokens(1));
        Check.due(0L, () -> x.bill(1));
        for (int i = 2; i < 6; i++) {
            int number = i;
            Check.due(number, () -> x.addCaller(0));
        }
        Check.due(Check.ISE, () -> x.addCaller(0));
        Check.due(Check.IOOBE, () -> x.addCaller(2));
        Check.due(Check.IOOBE, () -> x.tokens(6));
        Check.due(7, () -> x.tokens(5));
    }

    private static void addCallerRefuses() {
        CallGateway x = new CallGateway();
        Check.due(Check.IOOBE, () -> x.addCaller(0));
        x.addPlan(1, 7, 0);
        Check.due(Check.IOOBE, () -> x.addCaller(1));
        Check.due(Check.IOOBE, () -> x.addCaller(-1));
        Check.due(Check.IOOBE, () -> x.addCaller(3));
        Check.due(Check.IOOBE, () -> x.addCaller(Integer.MAX_VALUE));
        Check.due(0, () -> x.addCaller(0));
    }

    private static void setPlan() {
        CallGateway x = new CallGateway();
        x.addRoute(0, 2, 0, 0);
        x.addPlan(3, 10, 5);
        x.addPlan(1, 4, 7);
        x.addCaller(0);
        x.addCaller(0);
        Check.due(0, () -> x.setPlan(0, 0));
        Check.due(6, () -> x.setPlan(0, 1));
        Check.due(4, () -> x.tokens(0));
        Check.due(10, () -> x.tokens(1));
        x.call(0, 0, 0);
        Check.due(14L, () -> x.bill(0));
        Check.due(0, () -> x.setPlan(0, 0));
        Check.due(2, () -> x.tokens(0));
        Check.due(3, () -> x.pass(1));
        Check.due(1, () -> x.setPlan(0, 1));
        Check.due(0, () -> x.pass(1));
        Check.due(4, () -> x.tokens(0));
        Check.due(14L, () -> x.bill(0));
    }

    private static void setPlanRefuses() {
        CallGateway x = new CallGateway();
        x.addPlan(3, 10, 5);
        x.addCaller(0);
        Check.due(Check.IOOBE, () -> x.setPlan(1, 0));
        Check.due(Check.IOOBE, () -> x.setPlan(0, 1));
        Check.due(Check.IOOBE, () -> x.setPlan(-1, 0));
        Check.due(Check.IOOBE, () -> x.setPlan(0, -1));
        Check.due(Check.IOOBE, () -> x.setPlan(6, 3));
        Check.due(0, () -> x.setPlan(0, 0));
    }

    private static void tokens() {
        CallGateway x = new CallGateway();
        x.addRoute(0, 3, 0, 0);
        x.addPlan(2, 8, 5);
        x.addCaller(0);
        Check.due(8, () -> x.tokens(0));
        x.call(0, 0, 0);
        Check.due(5, () -> x.tokens(0));
        x.pass(1);
        Check.due(7, () -> x.tokens(0));
        x.pass(1);
        Check.due(8, () -> x.tokens(0));
        Check.due(Check.IOOBE, () -> x.tokens(1));
        Check.due(Check.IOOBE, () -> x.tokens(-1));
        Check.due(Check.IOOBE, () -> x.tokens(6));
        Check.due(Check.IOOBE, () -> x.tokens(Integer.MIN_VALUE));
    }

    private static void ticksUntil() {
        CallGateway x = new CallGateway();
        x.addRoute(1, 5, 0, 0);
        x.addRoute(2, 1, 0, 0);
        x.addRoute(3, 4, 0, 0);
        x.addPlan(2, 5, 0);
        x.addPlan(20, 5, 0);
        x.addCaller(0);
        Check.due(0, () -> x.ticksUntil(0, 0));
        x.call(0, 2, 0);
        Check.due(1, () -> x.ticksUntil(0, 0));
        Check.due(0, () -> x.ticksUntil(0, 2));
        x.call(0, 3, 0);
        Check.due(0, () -> x.tokens(0));
        Check.due(3, () -> x.ticksUntil(0, 0));
        Check.due(1, () -> x.ticksUntil(0, 1));
        Check.due(2, () -> x.ticksUntil(0, 2));
        x.pass(2);
        Check.due('l', () -> x.call(0, 1, 0));
        x.pass(1);
        Check.due('s', () -> x.call(0, 1, 0));
        x.setPlan(0, 1);
        Check.due(1, () -> x.ticksUntil(0, 0));
    }

    private static void ticksUntilAtTheLeastRate() {
        CallGateway x = new CallGateway();
        x.addRoute(0, 5, 0, 0);
        x.addPlan(1, 6, 0);
        x.addCaller(0);
        x.call(0, 0, 0);
        for (int i = 4; i >= 0; i--) {
            int ticks = i;
            Check.due(ticks, () -> x.ticksUntil(0, 0));
            x.pass(1);
        }
        Check.due(0, () -> x.ticksUntil(0, 0));
    }

    private static void ticksUntilNeedsTheBurst() {
        CallGateway x = new CallGateway();
        x.addRoute(1, 5, 0, 0);
        x.addRoute(2, 4, 0, 0);
        x.addPlan(20, 4, 0);
        x.addCaller(0);
        Check.due(Check.NSEE, () -> x.ticksUntil(0, 0));
        Check.due(0, () -> x.ticksUntil(0, 1));
        x.call(0, 2, 0);
        Check.due(Check.NSEE, () -> x.ticksUntil(0, 0));
        Check.due(1, () -> x.ticksUntil(0, 1));
        Check.due(Check.IOOBE, () -> x.ticksUntil(1, 0));
        Check.due(Check.IOOBE, () -> x.ticksUntil(0, 2));
        Check.due(Check.IOOBE, () -> x.ticksUntil(-1, 0));
        Check.due(Check.IOOBE, () -> x.ticksUntil(0, -1));
        Check.due(Check.IOOBE, () -> x.ticksUntil(6, 8));
    }

    private static void bills() {
        CallGateway x = new CallGateway();
        x.addRoute(1, 2, 0, 10);
        x.addRoute(2, 3, 0, 10);
        x.addPlan(20, 6, 10);
        x.addPlan(20, 6, 0);
        x.addCaller(0);
        x.addCaller(1);
        dueBills(x, 0, 0L);
        x.call(0, 1, 0);
        dueBills(x, 0, 20L);
        x.call(0, 2, 0);
        dueBills(x, 0, 50L);
        x.call(0, 2, 0);
        x.call(0, 3, 0);
        dueBills(x, 0, 50L);
        x.call(1, 2, 0);
        dueBills(x, 1, 0L);
        x.setPlan(0, 1);
        dueBills(x, 0, 50L);
        x.pass(1);
        x.setPlan(0, 0);
        x.begin(0, 5, 100, 2);
        x.call(0, 1, 0);
        dueBills(x, 0, 70L);
        x.setContract(0, 0, 4);
        x.call(0, 1, 0);
        dueBills(x, 0, 70L);
        x.call(0, 1, 0);
        dueBills(x, 0, 50L);
        dueBills(x, 2, Check.IOOBE);
        dueBills(x, -1, Check.IOOBE);
        dueBills(x, 6, Check.IOOBE);
    }

    private static void dueBills(CallGateway x, int caller, Object want) {
        Check.due(want, () -> x.bill(caller));
        Check.due(want, () -> x.billByLog(caller));
    }

    private static void billsOfManyCalls() {
        CallGateway x = new CallGateway();
        x.addRoute(0, 5, 0, 0);
        x.addPlan(20, 100, 99);
        x.addCaller(0);
        for (int round = 0; round < 20; round++) {
            for (int i = 0; i < 20; i++) {
                x.call(0, 9, i);
            }
            x.pass(5);
        }
        dueBills(x, 0, 400L * 495);
    }
}
