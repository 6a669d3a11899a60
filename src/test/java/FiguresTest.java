/** Promises 26 to 28: figures. Above each test stands the sentence that it holds. */
public final class FiguresTest {
    public static void main(String[] args) {
        greatestReturnsTheCaller();
        greatestOfSeveralIsTheLowest();
        greatestFollowsTheUndoing();
        greatestThrowsIfThereAreNoCallers();
        canaryShareDivides();
        canaryShareIsOfCallsThatAreNotUndone();
        canaryShareCountsPromotedCalls();
        canaryShareIsAFloat();
        canaryShareThrowsIfThereWasNoCall();
        meanCostDivides();
        meanCostIsOfCallsThatTookTokens();
        meanCostIsOfCallsThatAreNotUndone();
        meanCostFromTheFirstCallOn();
        meanCostIsADouble();
        meanCostThrowsIfThereIsNoSuchCall();
        Check.end();
    }

    /** Routes 0 (path 1, cost 2), 1 (path 2, cost 5); plan 0 (20, 100, 10), 1 (1, 100, 0). */
    private static CallGateway gateway() {
        CallGateway x = new CallGateway();
        x.addRoute(1, 2, 0, 99);
        x.addRoute(2, 5, 0, 99);
        x.addPlan(20, 100, 10);
        x.addPlan(1, 100, 0);
        return x;
    }

    /** Promise 26: "Returns the caller with the greatest bill": wherever it stands. */
    private static void greatestReturnsTheCaller() {
        for (int i = 0; i < 6; i++) {
            int greatest = i;
            CallGateway x = gateway();
            for (int caller = 0; caller < 6; caller++) {
                x.addCaller(0);
                x.call(caller, 1, 0);
            }
            x.call(greatest, 1, 0);
            Check.due(greatest, () -> x.greatest());
        }
        CallGateway one = gateway();
        one.addCaller(1);
        Check.due(0, () -> one.greatest());
        one.addCaller(0);
        one.call(0, 2, 0);
        Check.due(0, () -> one.greatest());
        one.call(1, 1, 0);
        Check.due(1, () -> one.greatest());
    }

    /** Promise 26: "of several, the one with the lowest number." */
    private static void greatestOfSeveralIsTheLowest() {
        CallGateway x = gateway();
        x.addCaller(0);
        Check.due(0, () -> x.greatest());
        x.addCaller(0);
        x.addCaller(0);
        Check.due(0, () -> x.greatest());
        x.call(2, 1, 0);
        Check.due(2, () -> x.greatest());
        x.call(1, 1, 0);
        Check.due(1, () -> x.greatest());
        x.call(0, 1, 0);
        Check.due(0, () -> x.greatest());
        x.call(2, 2, 0);
        Check.due(2, () -> x.greatest());
        x.call(1, 2, 0);
        Check.due(1, () -> x.greatest());
    }

    private static void greatestFollowsTheUndoing() {
        CallGateway x = gateway();
        x.addCaller(0);
        x.addCaller(0);
        x.call(0, 1, 0);
        x.begin(1, 5, 100, 9);
        x.call(1, 2, 0);
        Check.due(1, () -> x.greatest());
        x.takeBack(1);
        Check.due(0, () -> x.greatest());
        x.call(1, 1, 0);
        Check.due(0, () -> x.greatest());
    }

    /** Promise 26: "Throws NoSuchElementException if there are no callers" */
    private static void greatestThrowsIfThereAreNoCallers() {
        CallGateway x = new CallGateway();
        Check.due(Check.NSEE, () -> x.greatest());
        x.addRoute(1, 2, 0, 99);
        x.addPlan(1, 1, 1);
        Check.due(Check.NSEE, () -> x.greatest());
        Check.due(Check.IOOBE, () -> x.addCaller(1));
        Check.due(Check.NSEE, () -> x.greatest());
        x.addCaller(0);
        Check.due(0, () -> x.greatest());
    }

    /** Promise 27: "Returns their number divided by that of all calls": of all kinds and callers; 0 and 1 too. */
    private static void canaryShareDivides() {
        CallGateway x = gateway();
        x.addCaller(0);
        x.addCaller(0);
        x.begin(0, 5, 50, 9);
        x.call(0, 1, 0);
        Check.due(1f, () -> x.canaryShare());
        x.call(1, 1, 0);
        Check.due(1f, () -> x.canaryShare());
        x.call(1, 1, 50);
        x.call(1, 9, 0);
        Check.due(0.5f, () -> x.canaryShare());
        x.setContract(0, 0, 0);
        x.call(0, 1, 0);
        Check.due(0.4f, () -> x.canaryShare());
        CallGateway none = gateway();
        none.addCaller(0);
        none.call(0, 9, 0);
        Check.due(0f, () -> none.canaryShare());
        none.call(0, 1, 0);
        Check.due(0f, () -> none.canaryShare());
    }

    /** Promise 27: "the share of all calls that are of the kind 'c' and not undone.": the undone ones are calls
     * still. */
    private static void canaryShareIsOfCallsThatAreNotUndone() {
        CallGateway x = gateway();
        x.addCaller(0);
        x.begin(0, 5, 100, 9);
        x.begin(1, 5, 100, 9);
        x.call(0, 1, 0);
        x.call(0, 1, 0);
        x.call(0, 2, 0);
        x.call(0, 9, 0);
        Check.due(0.75f, () -> x.canaryShare());
        x.takeBack(0);
        Check.due(0.25f, () -> x.canaryShare());
        x.takeBack(1);
        Check.due(0f, () -> x.canaryShare());
    }

    /** The same sentence: a call stays of its kind when its canary becomes stable. */
    private static void canaryShareCountsPromotedCalls() {
        CallGateway x = gateway();
        x.addCaller(0);
        x.begin(0, 5, 100, 9);
        x.call(0, 1, 0);
        x.promote(0);
        Check.due(1f, () -> x.canaryShare());
        x.call(0, 1, 0);
        Check.due(0.5f, () -> x.canaryShare());
    }

    /** Promise 27: "both converted to float." */
    private static void canaryShareIsAFloat() {
        CallGateway x = gateway();
        x.addCaller(0);
        x.begin(0, 5, 100, 9);
        x.call(0, 1, 0);
        for (int i = 2; i < 60; i++) {
            x.call(0, 9, 0);
            float want = 1f / (float) i;
            Check.due(want, () -> x.canaryShare());
        }
    }

    /** Promise 27: "Throws ArithmeticException if there was no call": a call that throws was none. */
    private static void canaryShareThrowsIfThereWasNoCall() {
        CallGateway x = gateway();
        Check.due(Check.AE, () -> x.canaryShare());
        x.addCaller(0);
        x.begin(0, 5, 100, 9);
        Check.due(Check.IAE, () -> x.call(0, 1, 100));
        Check.due(Check.IOOBE, () -> x.call(1, 1, 0));
        Check.due(Check.AE, () -> x.canaryShare());
        x.call(0, 1, 0);
        x.takeBack(0);
        Check.due(0f, () -> x.canaryShare());
    }

    /** Promise 28: "Returns the sum of their tokens divided by their number": of all callers. */
    private static void meanCostDivides() {
        CallGateway x = gateway();
        x.addCaller(0);
        x.addCaller(0);
        x.call(0, 1, 0);
        Check.due(2.0, () -> x.meanCost());
        x.call(1, 2, 0);
        Check.due(3.5, () -> x.meanCost());
        x.call(1, 1, 0);
        Check.due(3.0, () -> x.meanCost());
    }

    /** Promise 28: "the mean of what the calls took that took tokens": of the kind 's' or 'c', with a price or
     * without. */
    private static void meanCostIsOfCallsThatTookTokens() {
        CallGateway x = gateway();
        x.addPlan(1, 4, 0);
        x.addCaller(1);
        x.addCaller(2);
        x.begin(1, 100, 50, 9);
        x.call(0, 9, 0);
        x.call(0, 2, 0);
        x.call(1, 2, 0);
        // A plan without a price takes tokens too.
        x.call(0, 1, 0);
        Check.due(2.0, () -> x.meanCost());
        x.setContract(1, 0, 100);
        x.call(0, 2, 0);
        Check.due(3.5, () -> x.meanCost());
        x.call(0, 2, 50);
        Check.due(4.0, () -> x.meanCost());
        x.call(0, 9, 0);
        x.call(1, 2, 0);
        Check.due(4.0, () -> x.meanCost());
    }

    /** Promise 28: "and are not undone." */
    private static void meanCostIsOfCallsThatAreNotUndone() {
        CallGateway x = gateway();
        x.addCaller(0);
        x.begin(1, 50, 100, 9);
        x.call(0, 1, 0);
        x.call(0, 2, 0);
        x.call(0, 2, 0);
        Check.due(4.0, () -> x.meanCost());
        x.takeBack(1);
        Check.due(2.0, () -> x.meanCost());
        x.begin(1, 50, 100, 9);
        x.call(0, 2, 0);
        x.promote(1);
        Check.due(3.5, () -> x.meanCost());
    }

    private static void meanCostFromTheFirstCallOn() {
        CallGateway x = gateway();
        x.addRoute(3, 1, 0, 99);
        x.addCaller(0);
        x.call(0, 3, 0);
        Check.due(1.0, () -> x.meanCost());
        x.call(0, 2, 0);
        Check.due(3.0, () -> x.meanCost());
    }

    /** Promise 28: "both converted to double." */
    private static void meanCostIsADouble() {
        CallGateway x = gateway();
        x.addCaller(0);
        x.call(0, 2, 0);
        double sum = 5;
        for (int i = 2; i < 40; i++) {
            x.call(0, 1, 0);
            sum += 2;
            double want = sum / (double) i;
            Check.due(want, () -> x.meanCost());
        }
    }

    /** Promise 28: "Throws ArithmeticException if there is no such call": none yet, none that took, none any more. */
    private static void meanCostThrowsIfThereIsNoSuchCall() {
        CallGateway x = gateway();
        x.addPlan(1, 4, 1);
        x.addCaller(2);
        x.addCaller(0);
        Check.due(Check.AE, () -> x.meanCost());
        x.call(0, 9, 0);
        x.call(0, 2, 0);
        Check.due(Check.AE, () -> x.meanCost());
        x.begin(0, 100, 100, 9);
        x.call(0, 1, 0);
        Check.due(Check.AE, () -> x.meanCost());
        x.setContract(0, 0, 100);
        x.call(0, 1, 0);
        Check.due(2.0, () -> x.meanCost());
        x.takeBack(0);
        Check.due(Check.AE, () -> x.meanCost());
        x.call(1, 2, 0);
        Check.due(5.0, () -> x.meanCost());
    }
}
