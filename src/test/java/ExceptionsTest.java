import java.util.ArrayList;
import java.util.List;
import java.util.concurrent.Callable;
import java.util.function.Consumer;
import java.util.function.Function;

/** The sentences of "Terms" on exceptions and on calls that look. That a call changes nothing is seen from two like
 * objects: the one that threw or was looked at answers as the other does. */
public final class ExceptionsTest {
    public static void main(String[] args) {
        allOtherCallsLook();
        emptyGatewayIsUnchanged();
        smallGatewayIsUnchangedByItsRoutes();
        smallGatewayIsUnchangedByItsCallers();
        fullGatewayIsUnchanged();
        theFirstOneOfTwoIsThrown();
        theFirstOneOfTwoIsThrownWhenAllIsFull();
        theFirstOneOfThreeIsThrown();
        Check.end();
    }

    /** "and all other calls look." */
    private static void allOtherCallsLook() {
        CallGateway untouched = new CallGateway();
        CallGateway lookedAt = new CallGateway();
        setUpSmall(untouched);
        setUpSmall(lookedAt);
        List<Object> first = looks(lookedAt);
        Check.same("the second look", first, looks(lookedAt));
        Check.same("going on after looks", goesOn(untouched), goesOn(lookedAt));
        Check.same("the look at the end", looks(untouched), looks(lookedAt));
    }

    /** "A method that throws an exception changes nothing." */
    private static void emptyGatewayIsUnchanged() {
        Consumer<CallGateway> none = x -> { };
        dueUnchanged(none, Check.IAE, x -> x.addRoute(10, 1, 0, 9));
        dueUnchanged(none, Check.IAE, x -> x.addRoute(1, 1, 5, 4));
        dueUnchanged(none, Check.NSEE, x -> x.route(1));
        dueUnchanged(none, Check.NSEE, x -> x.routeByComparing(1));
        dueUnchanged(none, Check.IOOBE, x -> x.addCaller(0));
        dueUnchanged(none, Check.IAE, x -> x.addPlan(1, 1, 100));
        dueUnchanged(none, Check.IOOBE, x -> x.call(0, 1, 1));
        dueUnchanged(none, Check.IOOBE, x -> x.begin(0, 1, 1, 1));
        dueUnchanged(none, Check.IAE, x -> x.pass(101));
        dueUnchanged(none, Check.NSEE, x -> x.greatest());
        dueUnchanged(none, Check.AE, x -> x.canaryShare());
        dueUnchanged(none, Check.AE, x -> x.meanCost());
    }

    /** Route 0 has a canary with a fault, route 1 has none. */
    private static void setUpSmall(CallGateway x) {
        x.addRoute(1, 2, 10, 19);
        x.addRoute(12, 5, 0, 999);
        x.addPlan(3, 9, 10);
        x.addPlan(1, 4, 7);
        x.addCaller(0);
        x.addCaller(1);
        x.begin(0, 15, 50, 3);
        x.call(0, 1, 0);
        x.call(0, 1, 50);
        x.setContract(0, 10, 14);
        x.call(0, 1, 0);
        x.setContract(0, 10, 15);
    }

    /** The same sentence, of routes and canaries. */
    private static void smallGatewayIsUnchangedByItsRoutes() {
        Consumer<CallGateway> small = ExceptionsTest::setUpSmall;
        dueUnchanged(small, Check.IAE, x -> x.addRoute(1, 3, 0, 9));
        dueUnchanged(small, Check.IAE, x -> x.addRoute(2, 6, 0, 9));
        dueUnchanged(small, Check.IAE, x -> x.addRoute(2, 1, 0, 1000));
        dueUnchanged(small, Check.IAE, x -> x.addRoute(20, 1, 0, 9));
        dueUnchanged(small, Check.IAE, x -> x.route(10));
        dueUnchanged(small, Check.NSEE, x -> x.route(2));
        dueUnchanged(small, Check.IAE, x -> x.routeByComparing(10));
        dueUnchanged(small, Check.NSEE, x -> x.routeByComparing(2));
        dueUnchanged(small, Check.IOOBE, x -> x.setContract(2, 0, 9));
        dueUnchanged(small, Check.IAE, x -> x.setContract(0, 5, 1000));
        dueUnchanged(small, Check.IAE, x -> x.setContract(0, -1, 5));
        dueUnchanged(small, Check.IAE, x -> x.setContract(0, 5, 4));
        dueUnchanged(small, Check.IOOBE, x -> x.setAnswer(2, 9));
        dueUnchanged(small, Check.IAE, x -> x.setAnswer(0, 1000));
        dueUnchanged(small, Check.IAE, x -> x.setAnswer(0, -1));
        dueUnchanged(small, Check.IOOBE, x -> x.broken(2));
        dueUnchanged(small, Check.IOOBE, x -> x.begin(2, 5, 1, 1));
        dueUnchanged(small, Check.IAE, x -> x.begin(1, 1000, 1, 1));
        dueUnchanged(small, Check.IAE, x -> x.begin(1, 5, 101, 1));
        dueUnchanged(small, Check.IAE, x -> x.begin(1, 5, 1, 10));
        dueUnchanged(small, Check.ISE, x -> x.begin(0, 5, 1, 1));
        dueUnchanged(small, Check.IOOBE, x -> x.setShare(2, 1));
        dueUnchanged(small, Check.IAE, x -> x.setShare(0, 101));
        dueUnchanged(small, Check.IAE, x -> x.setShare(0, 0));
        dueUnchanged(small, Check.ISE, x -> x.setShare(1, 100));
        dueUnchanged(small, Check.ISE, x -> x.promote(1));
        dueUnchanged(small, Check.IOOBE, x -> x.promote(2));
        dueUnchanged(small, Check.ISE, x -> x.takeBack(1));
        dueUnchanged(small, Check.IOOBE, x -> x.takeBack(-1));
        dueUnchanged(small, Check.IOOBE, x -> x.hasCanary(2));
        dueUnchanged(small, Check.IOOBE, x -> x.faults(2));
        dueUnchanged(small, Check.NSEE, x -> x.faults(1));
    }

    /** The same sentence, of plans, callers, calls and ticks. */
    private static void smallGatewayIsUnchangedByItsCallers() {
        Consumer<CallGateway> small = ExceptionsTest::setUpSmall;
        dueUnchanged(small, Check.IAE, x -> x.addPlan(21, 1, 1));
        dueUnchanged(small, Check.IAE, x -> x.addPlan(1, 0, 1));
        dueUnchanged(small, Check.IAE, x -> x.addPlan(1, 1, 100));
        dueUnchanged(small, Check.IOOBE, x -> x.addCaller(2));
        dueUnchanged(small, Check.IOOBE, x -> x.setPlan(0, 2));
        dueUnchanged(small, Check.IOOBE, x -> x.setPlan(2, 0));
        dueUnchanged(small, Check.IOOBE, x -> x.tokens(2));
        dueUnchanged(small, Check.IOOBE, x -> x.ticksUntil(2, 0));
        dueUnchanged(small, Check.IOOBE, x -> x.ticksUntil(0, 2));
        dueUnchanged(small, Check.NSEE, x -> x.ticksUntil(1, 1));
        dueUnchanged(small, Check.IOOBE, x -> x.bill(2));
        dueUnchanged(small, Check.IOOBE, x -> x.billByLog(2));
        dueUnchanged(small, Check.IOOBE, x -> x.call(2, 1, 0));
        dueUnchanged(small, Check.IAE, x -> x.call(0, 10, 0));
        dueUnchanged(small, Check.IAE, x -> x.call(0, 1, 100));
        dueUnchanged(small, Check.IAE, x -> x.call(0, 1, -1));
        dueUnchanged(small, Check.IAE, x -> x.call(0, 2, 100));
        dueUnchanged(small, Check.IAE, x -> x.pass(0));
        dueUnchanged(small, Check.IAE, x -> x.pass(101));
        dueUnchanged(small, Check.IOOBE, x -> x.count(2, 's'));
        dueUnchanged(small, Check.IAE, x -> x.count(0, 'x'));
        dueUnchanged(small, Check.IOOBE, x -> x.isUndone(3));
        dueUnchanged(small, Check.IOOBE, x -> x.isUndone(-1));
    }

    private static void setUpFull(CallGateway x) {
        for (int i = 0; i < 8; i++) {
            x.addRoute(i, 1 + i % 5, 0, 9);
        }
        for (int i = 0; i < 3; i++) {
            x.addPlan(1 + i, 10 + i, i);
        }
        for (int i = 0; i < 6; i++) {
            x.addCaller(i % 3);
            x.call(i, i, 0);
        }
    }

    /** The same sentence, when there is room for no more. */
    private static void fullGatewayIsUnchanged() {
        Consumer<CallGateway> full = ExceptionsTest::setUpFull;
        dueUnchanged(full, Check.ISE, x -> x.addRoute(9, 1, 0, 9));
        dueUnchanged(full, Check.ISE, x -> x.addPlan(1, 1, 1));
        dueUnchanged(full, Check.ISE, x -> x.addCaller(0));
    }

    /** "If several exceptions apply, the one that is documented first is thrown." */
    private static void theFirstOneOfTwoIsThrown() {
        CallGateway none = new CallGateway();
        Check.due(Check.IAE, () -> none.route(10));
        Check.due(Check.IAE, () -> none.routeByComparing(10));
        Check.due(Check.IOOBE, () -> none.setContract(0, 5, 4));
        Check.due(Check.IOOBE, () -> none.setAnswer(0, 1000));
        Check.due(Check.IOOBE, () -> none.promote(0));
        Check.due(Check.IOOBE, () -> none.takeBack(0));
        Check.due(Check.IOOBE, () -> none.faults(0));
        Check.due(Check.IOOBE, () -> none.call(0, 10, 0));
        Check.due(Check.IOOBE, () -> none.call(0, 0, 100));
        Check.due(Check.IOOBE, () -> none.count(0, 'x'));
        CallGateway small = new CallGateway();
        setUpSmall(small);
        // The cost of route 1 is greater than the burst of caller 1.
        Check.due(Check.IOOBE, () -> small.ticksUntil(2, 1));
        Check.due(Check.IOOBE, () -> small.ticksUntil(1, 2));
        Check.due(Check.IOOBE, () -> small.ticksUntil(2, 2));
        Check.due(Check.IAE, () -> small.route(20));
        Check.due(Check.IAE, () -> small.routeByComparing(20));
    }

    /** The same sentence, of the limits. */
    private static void theFirstOneOfTwoIsThrownWhenAllIsFull() {
        CallGateway full = new CallGateway();
        setUpFull(full);
        Check.due(Check.IAE, () -> full.addRoute(10, 1, 0, 9));
        Check.due(Check.IAE, () -> full.addRoute(9, 6, 0, 9));
        Check.due(Check.IAE, () -> full.addRoute(9, 1, 9, 8));
        Check.due(Check.IAE, () -> full.addRoute(7, 1, 0, 9));
        Check.due(Check.IAE, () -> full.addPlan(0, 1, 1));
        Check.due(Check.IAE, () -> full.addPlan(1, 101, 1));
        Check.due(Check.IAE, () -> full.addPlan(1, 1, -1));
        Check.due(Check.IOOBE, () -> full.addCaller(3));
        Check.due(Check.IOOBE, () -> full.addCaller(-1));
    }

    /** The same sentence, of begin and setShare. */
    private static void theFirstOneOfThreeIsThrown() {
        CallGateway x = new CallGateway();
        setUpSmall(x);
        Check.due(Check.IOOBE, () -> x.begin(2, 1000, 101, 10));
        Check.due(Check.IOOBE, () -> x.begin(2, 5, 1, 1));
        Check.due(Check.IAE, () -> x.begin(0, 1000, 1, 1));
        Check.due(Check.IAE, () -> x.begin(0, 5, 101, 1));
        Check.due(Check.IAE, () -> x.begin(0, 5, 1, 10));
        Check.due(Check.ISE, () -> x.begin(0, 5, 1, 1));
        Check.due(Check.IOOBE, () -> x.setShare(2, 101));
        Check.due(Check.IOOBE, () -> x.setShare(2, 1));
        Check.due(Check.IAE, () -> x.setShare(1, 101));
        Check.due(Check.ISE, () -> x.setShare(1, 1));
    }

    private static void dueUnchanged(Consumer<CallGateway> setUp, String due, Function<CallGateway, Object> call) {
        CallGateway untouched = new CallGateway();
        CallGateway threw = new CallGateway();
        setUp.accept(untouched);
        setUp.accept(threw);
        Check.due(due, () -> call.apply(threw));
        Check.same("after " + due, looks(untouched), looks(threw));
        Check.same("going on after " + due, goesOn(untouched), goesOn(threw));
        Check.same("at the end after " + due, looks(untouched), looks(threw));
    }

    /** Every method that looks, for all numbers that there can be here; two looks stay within 512 calls. */
    private static List<Object> looks(CallGateway x) {
        List<Object> all = new ArrayList<>();
        for (int i = 0; i < 9; i++) {
            int route = i;
            add(all, () -> x.broken(route));
            add(all, () -> x.hasCanary(route));
            add(all, () -> x.faults(route));
            add(all, () -> x.route(route));
            add(all, () -> x.routeByComparing(route));
            add(all, () -> x.ticksUntil(route % 2, route));
            add(all, () -> x.isUndone(route));
        }
        for (int i = 0; i < 6; i++) {
            int caller = i;
            add(all, () -> x.tokens(caller));
            add(all, () -> x.bill(caller));
            add(all, () -> x.billByLog(caller));
            for (char kind : "nlscf".toCharArray()) {
                add(all, () -> x.count(caller, kind));
            }
        }
        add(all, () -> x.route(12));
        add(all, () -> x.calls());
        add(all, () -> x.greatest());
        add(all, () -> x.canaryShare());
        add(all, () -> x.meanCost());
        return all;
    }

    /** Calls that answer what can't be looked at: shares, limits, contracts, answers, rates, prices, free numbers. */
    private static List<Object> goesOn(CallGateway x) {
        List<Object> all = new ArrayList<>();
        for (int i = 0; i < 3; i++) {
            int number = i;
            add(all, () -> x.call(number, 1, 0));
            add(all, () -> x.setShare(number, 100));
            add(all, () -> x.setAnswer(number, 3));
            add(all, () -> x.call(number, 1, 99));
            add(all, () -> x.pass(1));
        }
        add(all, () -> x.setContract(0, 0, 0));
        add(all, () -> x.call(0, 1, 0));
        add(all, () -> x.call(0, 1, 0));
        add(all, () -> x.begin(0, 7, 5, 5));
        add(all, () -> x.begin(1, 7, 5, 5));
        add(all, () -> x.begin(2, 7, 5, 5));
        add(all, () -> x.promote(1));
        add(all, () -> x.takeBack(0));
        add(all, () -> x.addRoute(99, 1, 0, 0));
        add(all, () -> x.addPlan(2, 30, 4));
        add(all, () -> x.addCaller(0));
        return all;
    }

    private static void add(List<Object> all, Callable<Object> call) {
        all.add(Check.answerOf(call));
    }
}
