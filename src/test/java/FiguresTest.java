/** Promises 26 to 28: figures. */
public final class FiguresTest {
    public static void main(String[] args) {
        greatest();
        greatestAfterUndoing();
        canaryShare();
        canaryShareIsAFloat();
        meanCost();
        meanCostFromTheFirstCallOn();
        Check.end();
    }

    /** Routes 0 (path 1, cost 2), 1 (path 2, cost 5); plan 0 (20, 100, 10), 1 (1, 100, 0). */
    private static CallGateway gateway() {
        CallGateway x = new CallGateway();
        x.addRoute(1, 2, 0, 99);
        x.addRoute(2, 5, 0, 99);
        x.addPlan(20, 100, 10);
        x.addPlan(1, 100, 0);
        return x;
    }

    private static void greatest() {
        CallGateway x = gateway();
        Check.due(Check.NSEE, () -> x.greatest());
        x.addCaller(0);
        Check.due(0, () -> x.greatest());
        x.addCaller(0);
        x.addCaller(0);
        Check.due(0, () -> x.greatest());
        x.call(2, 1, 0);
        Check.due(2, () -> x.greatest());
        x.call(1, 1, 0);
        Check.due(1, () -> x.greatest());
        x.call(0, 1, 0);
        Check.due(0, () -> x.greatest());
        x.call(2, 2, 0);
        Check.due(2, () -> x.greatest());
    }

    private static void greatestAfterUndoing() {
        CallGateway x = gateway();
        x.addCaller(0);
        x.addCaller(0);
        x.call(0, 1, 0);
        x.begin(1, 5, 100, 9);
        x.call(1, 2, 0);
        Check.due(1, () -> x.greatest());
        x.takeBack(1);
        Check.due(0, () -> x.greatest());
    }

    private static void canaryShare() {
        CallGateway x = gateway();
        x.addCaller(0);
        Check.due(Check.AE, () -> x.canaryShare());
        x.call(0, 9, 0);
        Check.due(0f, () -> x.canaryShare());
        x.begin(0, 5, 50, 9);
        x.begin(1, 5, 100, 9);
        x.call(0, 1, 0);
        Check.due(0.5f, () -> x.canaryShare());
        x.call(0, 1, 50);
        x.call(0, 2, 50);
        Check.due(0.5f, () -> x.canaryShare());
        x.takeBack(0);
        Check.due(0.25f, () -> x.canaryShare());
        x.promote(1);
        Check.due(0.25f, () -> x.canaryShare());
    }

    private static void canaryShareIsAFloat() {
        CallGateway x = gateway();
        x.addCaller(0);
        x.begin(0, 5, 100, 9);
        x.call(0, 1, 0);
        Check.due(1f, () -> x.canaryShare());
        x.call(0, 9, 0);
        x.call(0, 9, 0);
        Check.due(1f / 3f, () -> x.canaryShare());
    }

    private static void meanCost() {
        CallGateway x = gateway();
        x.addCaller(1);
        Check.due(Check.AE, () -> x.meanCost());
        x.call(0, 9, 0);
        x.begin(1, 100, 100, 9);
        x.call(0, 2, 0);
        Check.due(Check.AE, () -> x.meanCost());
        // A plan without a price takes tokens too.
        x.call(0, 1, 0);
        Check.due(2.0, () -> x.meanCost());
        x.setContract(1, 0, 100);
        x.call(0, 2, 0);
        Check.due(3.5, () -> x.meanCost());
        x.call(0, 1, 0);
        Check.due(3.0, () -> x.meanCost());
        x.call(0, 2, 0);
        x.call(0, 2, 0);
        x.call(0, 2, 0);
        Check.due(24.0 / 6.0, () -> x.meanCost());
        x.call(0, 1, 0);
        Check.due(26.0 / 7.0, () -> x.meanCost());
        x.takeBack(1);
        Check.due(2.0, () -> x.meanCost());
    }

    private static void meanCostFromTheFirstCallOn() {
        CallGateway x = gateway();
        x.addRoute(3, 1, 0, 99);
        x.addCaller(0);
        x.call(0, 3, 0);
        Check.due(1.0, () -> x.meanCost());
        x.call(0, 2, 0);
        Check.due(3.0, () -> x.meanCost());
    }
}
