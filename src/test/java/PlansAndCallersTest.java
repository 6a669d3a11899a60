/** Promises 14 to 20: plans and callers. Above each test stands the sentence that it holds. */
public final class PlansAndCallersTest {
    private static final int LOWEST = Integer.MIN_VALUE;
    private static final int HIGHEST = Integer.MAX_VALUE;
    private static final int[] NO_CALLERS = {2, 3, 5, 6, 7, 256, 65536, HIGHEST, -1, -2, -6, LOWEST};

    public static void main(String[] args) {
        addPlanRate();
        addPlanBurst();
        addPlanPrice();
        addPlanReturnsTheNumber();
        addPlanThrowsIfThereAre3();
        addCallerReturnsTheNumber();
        addCallerThrowsIfThereIsNoSuchPlan();
        addCallerThrowsIfThereAre6();
        setPlanGivesAnotherPlan();
        setPlanLosesTokensThatAreMore();
        setPlanThrowsIfThereIsNoSuchCallerOrPlan();
        tokensReturnsTheNumber();
        tokensThrowsIfThereIsNoSuchCaller();
        ticksUntilReturnsTheLeastNumber();
        ticksUntilIsZeroIfItCouldBeMadeNow();
        ticksUntilHoldsForTheCallItself();
        ticksUntilFollowsThePlan();
        ticksUntilThrowsIfThereIsNoSuchCallerOrRoute();
        ticksUntilThrowsIfTheCostIsGreaterThanTheBurst();
        billIsKept();
        billIsFoundFromTheLog();
        billsOfManyCalls();
        billsThrowIfThereIsNoSuchCaller();
        Check.end();
    }

    /** Promise 14: "its rate, 1 to 20", "Throws IllegalArgumentException if a number is out of range" */
    private static void addPlanRate() {
        CallGateway x = new CallGateway();
        for (int rate : new int[] {0, -1, -20, 21, 256, 257, 65537, HIGHEST, LOWEST}) {
            Check.due(Check.IAE, () -> x.addPlan(rate, 1, 0));
        }
        x.addRoute(0, 5, 0, 0);
        Check.due(0, () -> x.addPlan(1, 100, 0));
        Check.due(1, () -> x.addPlan(20, 100, 0));
        for (int caller = 0; caller < 2; caller++) {
            x.addCaller(caller);
            for (int i = 0; i < 5; i++) {
                x.call(caller, 0, 0);
            }
        }
        Check.due(21, () -> x.pass(1));
        Check.due(76, () -> x.tokens(0));
        Check.due(95, () -> x.tokens(1));
    }

    /** Promise 14: "its burst, 1 to 100" */
    private static void addPlanBurst() {
        CallGateway x = new CallGateway();
        for (int burst : new int[] {0, -1, -100, 101, 256, 257, 65537, HIGHEST, LOWEST}) {
            Check.due(Check.IAE, () -> x.addPlan(1, burst, 0));
        }
        Check.due(0, () -> x.addPlan(1, 1, 0));
        Check.due(1, () -> x.addPlan(1, 100, 0));
        x.addCaller(0);
        x.addCaller(1);
        Check.due(0, () -> x.pass(100));
        Check.due(1, () -> x.tokens(0));
        Check.due(100, () -> x.tokens(1));
    }

    /** Promise 14: "its price, 0 to 99" */
    private static void addPlanPrice() {
        CallGateway x = new CallGateway();
        for (int price : new int[] {-1, -99, 100, 256, 65536, HIGHEST, LOWEST}) {
            Check.due(Check.IAE, () -> x.addPlan(1, 1, price));
        }
        x.addRoute(0, 5, 0, 0);
        Check.due(0, () -> x.addPlan(1, 5, 0));
        Check.due(1, () -> x.addPlan(1, 5, 99));
        Check.due(2, () -> x.addPlan(1, 5, 1));
        long[] due = {0L, 495L, 5L};
        for (int i = 0; i < 3; i++) {
            int caller = i;
            x.addCaller(caller);
            x.call(caller, 0, 0);
            Check.due(due[caller], () -> x.bill(caller));
        }
    }

    /** Promise 14: "Returns the number of the plan.": a refused one takes no number, and two may be alike. */
    private static void addPlanReturnsTheNumber() {
        CallGateway x = new CallGateway();
        Check.due(0, () -> x.addPlan(1, 1, 0));
        Check.due(Check.IAE, () -> x.addPlan(21, 2, 0));
        Check.due(1, () -> x.addPlan(1, 2, 0));
        Check.due(2, () -> x.addPlan(1, 1, 0));
        x.addCaller(1);
        Check.due(2, () -> x.tokens(0));
    }

    /** Promise 14: "Throws IllegalStateException if there are 3 plans" */
    private static void addPlanThrowsIfThereAre3() {
        CallGateway x = new CallGateway();
        for (int i = 0; i < 3; i++) {
            int number = i;
            Check.due(number, () -> x.addPlan(1, 1 + number, 0));
        }
        Check.due(Check.ISE, () -> x.addPlan(1, 1, 0));
        Check.due(Check.ISE, () -> x.addPlan(20, 100, 99));
        Check.due(Check.IAE, () -> x.addPlan(0, 1, 0));
        Check.due(Check.IOOBE, () -> x.addCaller(3));
        Check.due(0, () -> x.addCaller(2));
        Check.due(3, () -> x.tokens(0));
    }

    /** Promise 15: "Adds a caller.", "Returns the number of the caller." */
    private static void addCallerReturnsTheNumber() {
        CallGateway x = new CallGateway();
        x.addPlan(1, 7, 0);
        x.addPlan(1, 9, 0);
        Check.due(0, () -> x.addCaller(1));
        Check.due(Check.IOOBE, () -> x.addCaller(2));
        Check.due(1, () -> x.addCaller(0));
        Check.due(2, () -> x.addCaller(1));
        Check.due(9, () -> x.tokens(0));
        Check.due(7, () -> x.tokens(1));
        Check.due(9, () -> x.tokens(2));
        Check.due(0L, () -> x.bill(1));
    }

    /** Promise 15: "Throws IndexOutOfBoundsException if there is no such plan" */
    private static void addCallerThrowsIfThereIsNoSuchPlan() {
        CallGateway x = new CallGateway();
        Check.due(Check.IOOBE, () -> x.addCaller(0));
        x.addPlan(1, 7, 0);
        for (int plan : new int[] {1, 2, 3, 4, 256, 65536, HIGHEST, -1, -3, LOWEST}) {
            Check.due(Check.IOOBE, () -> x.addCaller(plan));
        }
        Check.due(0, () -> x.addCaller(0));
    }

    /** Promise 15: "Throws IllegalStateException if there are 6 callers" */
    private static void addCallerThrowsIfThereAre6() {
        CallGateway x = new CallGateway();
        x.addPlan(1, 7, 0);
        for (int i = 0; i < 6; i++) {
            int number = i;
            Check.due(number, () -> x.addCaller(0));
        }
        Check.due(Check.ISE, () -> x.addCaller(0));
        Check.due(Check.IOOBE, () -> x.addCaller(1));
        Check.due(Check.IOOBE, () -> x.addCaller(-1));
        Check.due(Check.IOOBE, () -> x.tokens(6));
        Check.due(7, () -> x.tokens(5));
    }

    /** Promise 16: "Gives a caller another plan": its rate, burst and price from then on, and to no other caller. */
    private static void setPlanGivesAnotherPlan() {
        CallGateway x = new CallGateway();
        x.addRoute(0, 2, 0, 0);
        x.addPlan(3, 10, 5);
        x.addPlan(1, 4, 7);
        x.addCaller(0);
        x.addCaller(0);
        x.setPlan(0, 1);
        x.call(0, 0, 0);
        x.call(1, 0, 0);
        Check.due(14L, () -> x.bill(0));
        Check.due(10L, () -> x.bill(1));
        Check.due(3, () -> x.pass(1));
        Check.due(3, () -> x.tokens(0));
        Check.due(10, () -> x.tokens(1));
        Check.due(1, () -> x.pass(9));
        x.setPlan(0, 0);
        Check.due(4, () -> x.tokens(0));
        Check.due(14L, () -> x.bill(0));
        Check.due(3, () -> x.pass(1));
        Check.due(3, () -> x.pass(2));
    }

    /** Promise 16: "tokens that are more than its burst are lost.", "Returns the number of tokens that are lost." */
    private static void setPlanLosesTokensThatAreMore() {
        for (int taken = 0; taken <= 10; taken++) {
            CallGateway x = new CallGateway();
            x.addRoute(0, 1, 0, 0);
            x.addPlan(1, 10, 5);
            x.addPlan(1, 4, 7);
            x.addPlan(1, 100, 7);
            x.addCaller(0);
            for (int i = 0; i < taken; i++) {
                x.call(0, 0, 0);
            }
            int before = 10 - taken;
            Check.due(0, () -> x.setPlan(0, 0));
            Check.due(0, () -> x.setPlan(0, 2));
            Check.due(before, () -> x.tokens(0));
            Check.due(Math.max(before - 4, 0), () -> x.setPlan(0, 1));
            Check.due(Math.min(before, 4), () -> x.tokens(0));
            Check.due(0, () -> x.setPlan(0, 1));
            Check.due(0, () -> x.setPlan(0, 0));
            Check.due(Math.min(before, 4), () -> x.tokens(0));
        }
        CallGateway most = new CallGateway();
        most.addPlan(1, 100, 0);
        most.addPlan(1, 1, 0);
        most.addCaller(0);
        Check.due(99, () -> most.setPlan(0, 1));
    }

    /** Promise 16: "Throws IndexOutOfBoundsException if there is no such caller or no such plan" */
    private static void setPlanThrowsIfThereIsNoSuchCallerOrPlan() {
        CallGateway x = new CallGateway();
        x.addPlan(3, 10, 5);
        Check.due(Check.IOOBE, () -> x.setPlan(0, 0));
        x.addCaller(0);
        x.addCaller(0);
        for (int caller : NO_CALLERS) {
            Check.due(Check.IOOBE, () -> x.setPlan(caller, 0));
            Check.due(Check.IOOBE, () -> x.setPlan(caller, 1));
        }
        for (int plan : new int[] {1, 2, 3, 256, 65536, HIGHEST, -1, LOWEST}) {
            Check.due(Check.IOOBE, () -> x.setPlan(1, plan));
        }
        Check.due(0, () -> x.setPlan(1, 0));
    }

    /** Promise 17: "Returns the tokens of a caller." */
    private static void tokensReturnsTheNumber() {
        CallGateway x = new CallGateway();
        x.addRoute(0, 3, 0, 0);
        x.addPlan(2, 8, 5);
        x.addCaller(0);
        Check.due(8, () -> x.tokens(0));
        x.call(0, 0, 0);
        Check.due(5, () -> x.tokens(0));
        x.pass(1);
        Check.due(7, () -> x.tokens(0));
        x.pass(1);
        Check.due(8, () -> x.tokens(0));
        x.call(0, 0, 0);
        x.call(0, 0, 0);
        x.call(0, 0, 0);
        Check.due(2, () -> x.tokens(0));
        x.pass(1);
        x.call(0, 0, 0);
        x.pass(1);
        x.call(0, 0, 0);
        Check.due(0, () -> x.tokens(0));
        x.call(0, 0, 0);
        Check.due(0, () -> x.tokens(0));
    }

    /** Promise 17: "Throws IndexOutOfBoundsException if there is no such caller" */
    private static void tokensThrowsIfThereIsNoSuchCaller() {
        CallGateway x = new CallGateway();
        x.addPlan(2, 8, 5);
        x.addCaller(0);
        x.addCaller(0);
        for (int caller : NO_CALLERS) {
            Check.due(Check.IOOBE, () -> x.tokens(caller));
        }
        Check.due(8, () -> x.tokens(1));
    }

    /** A caller of a plan with this rate and a burst of 5, who has this many tokens; routes 0 to 4 cost 1 to 5. */
    private static CallGateway withTokens(int rate, int tokens) {
        CallGateway x = new CallGateway();
        for (int cost = 1; cost <= 5; cost++) {
            x.addRoute(cost, cost, 0, 0);
        }
        x.addPlan(rate, 5, 0);
        x.addCaller(0);
        if (tokens < 5) {
            x.call(0, 5 - tokens, 0);
        }
        return x;
    }

    /** Promise 18: "Returns the least number of ticks": all costs, all tokens, and rates up to the greatest one. */
    private static void ticksUntilReturnsTheLeastNumber() {
        int[][] dueForMissing = {{0, 0}, {1, 1, 2, 3, 4, 5}, {2, 1, 1, 2, 2, 3}, {3, 1, 1, 1, 2, 2},
            {4, 1, 1, 1, 1, 2}, {5, 1, 1, 1, 1, 1}, {20, 1, 1, 1, 1, 1}};
        for (int row = 1; row < dueForMissing.length; row++) {
            int[] due = dueForMissing[row];
            for (int tokens = 0; tokens <= 5; tokens++) {
                CallGateway x = withTokens(due[0], tokens);
                for (int cost = tokens + 1; cost <= 5; cost++) {
                    int route = cost - 1;
                    int want = due[cost - tokens];
                    Check.due(want, () -> x.ticksUntil(0, route));
                }
            }
        }
    }

    /** Promise 18: "0 if it could be made now": just enough tokens, and more. */
    private static void ticksUntilIsZeroIfItCouldBeMadeNow() {
        for (int tokens = 1; tokens <= 5; tokens++) {
            CallGateway x = withTokens(1, tokens);
            for (int cost = 1; cost <= tokens; cost++) {
                int route = cost - 1;
                Check.due(0, () -> x.ticksUntil(0, route));
            }
        }
    }

    /** Promise 18: "Returns after how many ticks a caller could make a call to a route, if it makes no other calls." */
    private static void ticksUntilHoldsForTheCallItself() {
        for (int rate = 1; rate <= 6; rate++) {
            CallGateway x = withTokens(rate, 0);
            int ticks = (Integer) Check.answerOf(() -> x.ticksUntil(0, 4));
            for (int left = ticks; left > 0; left--) {
                int due = left;
                Check.due(due, () -> x.ticksUntil(0, 4));
                Check.due('l', () -> x.call(0, 5, 0));
                x.pass(1);
            }
            Check.due(0, () -> x.ticksUntil(0, 4));
            Check.due('s', () -> x.call(0, 5, 0));
        }
    }

    /** The same sentence, of a caller that got another plan. */
    private static void ticksUntilFollowsThePlan() {
        CallGateway x = withTokens(1, 0);
        x.addPlan(3, 5, 0);
        x.addPlan(1, 4, 0);
        Check.due(5, () -> x.ticksUntil(0, 4));
        x.setPlan(0, 1);
        Check.due(2, () -> x.ticksUntil(0, 4));
        x.setPlan(0, 2);
        Check.due(Check.NSEE, () -> x.ticksUntil(0, 4));
        Check.due(4, () -> x.ticksUntil(0, 3));
    }

    /** Promise 18: "Throws IndexOutOfBoundsException if there is no such caller or no such route" */
    private static void ticksUntilThrowsIfThereIsNoSuchCallerOrRoute() {
        CallGateway x = withTokens(1, 5);
        x.addCaller(0);
        for (int caller : NO_CALLERS) {
            Check.due(Check.IOOBE, () -> x.ticksUntil(caller, 0));
            Check.due(Check.IOOBE, () -> x.ticksUntil(caller, 5));
        }
        for (int route : new int[] {5, 6, 7, 8, 256, 65536, HIGHEST, -1, -8, LOWEST}) {
            Check.due(Check.IOOBE, () -> x.ticksUntil(0, route));
        }
        Check.due(0, () -> x.ticksUntil(1, 4));
    }

    /** Promise 18: "Throws NoSuchElementException if the cost is greater than the burst": not if it is just as
     * great. */
    private static void ticksUntilThrowsIfTheCostIsGreaterThanTheBurst() {
        for (int burst = 1; burst <= 4; burst++) {
            CallGateway x = new CallGateway();
            x.addRoute(1, burst, 0, 0);
            x.addRoute(2, burst + 1, 0, 0);
            x.addPlan(20, burst, 0);
            x.addCaller(0);
            Check.due(Check.NSEE, () -> x.ticksUntil(0, 1));
            Check.due(0, () -> x.ticksUntil(0, 0));
            x.call(0, 1, 0);
            Check.due(Check.NSEE, () -> x.ticksUntil(0, 1));
            Check.due(1, () -> x.ticksUntil(0, 0));
        }
    }

    private static CallGateway gatewayWithBills() {
        CallGateway x = new CallGateway();
        x.addRoute(1, 2, 0, 10);
        x.addRoute(2, 3, 0, 10);
        x.addPlan(20, 6, 10);
        x.addPlan(20, 6, 0);
        x.addCaller(0);
        x.addCaller(1);
        return x;
    }

    /** Promise 19: "Returns the bill of a caller, as it is kept." */
    private static void billIsKept() {
        CallGateway x = gatewayWithBills();
        Check.due(0L, () -> x.bill(0));
        x.call(0, 1, 0);
        Check.due(20L, () -> x.bill(0));
        x.begin(1, 5, 100, 9);
        x.call(0, 2, 0);
        Check.due(50L, () -> x.bill(0));
        x.call(0, 2, 0);
        x.call(0, 3, 0);
        Check.due(50L, () -> x.bill(0));
        x.call(1, 2, 0);
        Check.due(0L, () -> x.bill(1));
        x.setPlan(0, 1);
        Check.due(50L, () -> x.bill(0));
        x.takeBack(1);
        Check.due(20L, () -> x.bill(0));
        Check.due(0L, () -> x.bill(1));
    }

    /** Promise 20: "Returns the same bill, found from the log." */
    private static void billIsFoundFromTheLog() {
        CallGateway x = gatewayWithBills();
        dueBills(x, 0, 0L);
        x.call(0, 1, 0);
        dueBills(x, 0, 20L);
        x.call(0, 2, 0);
        dueBills(x, 0, 50L);
        x.call(0, 2, 0);
        x.call(0, 3, 0);
        dueBills(x, 0, 50L);
        x.call(1, 2, 0);
        dueBills(x, 1, 0L);
        x.setPlan(0, 1);
        dueBills(x, 0, 50L);
        x.pass(1);
        x.setPlan(0, 0);
        x.begin(0, 5, 100, 2);
        x.call(0, 1, 0);
        dueBills(x, 0, 70L);
        x.setContract(0, 0, 4);
        x.call(0, 1, 0);
        dueBills(x, 0, 70L);
        x.call(0, 1, 0);
        dueBills(x, 0, 50L);
    }

    private static void dueBills(CallGateway x, int caller, Object want) {
        Check.due(want, () -> x.bill(caller));
        Check.due(want, () -> x.billByLog(caller));
    }

    private static void billsOfManyCalls() {
        CallGateway x = new CallGateway();
        x.addRoute(0, 5, 0, 0);
        x.addPlan(20, 100, 99);
        x.addCaller(0);
        for (int round = 0; round < 20; round++) {
            for (int i = 0; i < 20; i++) {
                x.call(0, 9, i);
            }
            x.pass(5);
        }
        dueBills(x, 0, 400L * 495);
    }

    /** Promises 19 and 20: "Throws IndexOutOfBoundsException if there is no such caller" */
    private static void billsThrowIfThereIsNoSuchCaller() {
        CallGateway x = gatewayWithBills();
        for (int caller : NO_CALLERS) {
            dueBills(x, caller, Check.IOOBE);
        }
        dueBills(x, 1, 0L);
    }
}
