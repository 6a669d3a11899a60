import java.util.NoSuchElementException;

/** A gateway for calls, as ../shared/DOC.md promises it; README.md tells how to use it. */
public final class CallGateway {
    private static final int MOST_ROUTES = 8;
    private static final int MOST_PLANS = 3;
    private static final int MOST_CALLERS = 6;
    private static final int MOST_ENTRIES = 512;
    private static final int MOST_DIGITS = 4;
    private static final int GREATEST_PATH = 9999;
    private static final int GREATEST_COST = 5;
    private static final int GREATEST_ANSWER = 999;
    private static final int GREATEST_SHARE = 100;
    private static final int GREATEST_LIMIT = 9;
    private static final int GREATEST_RATE = 20;
    private static final int GREATEST_BURST = 100;
    private static final int GREATEST_PRICE = 99;
    private static final int GREATEST_KEY = 99;
    private static final int MOST_TICKS = 100;

    private static final char NO_ROUTE = 'n';
    private static final char LIMITED = 'l';
    private static final char STABLE = 's';
    private static final char CANARY = 'c';
    private static final char FAULT = 'f';

    private static final int NO_CANARY = -1;

    private final Route[] routes;
    private final Plan[] plans;
    private final Caller[] callers;
    private final CallLog log;
    private int routeCount;
    private int planCount;
    private int callerCount;
    private int canariesBegun;

    public CallGateway() {
        routes = new Route[MOST_ROUTES];
        plans = new Plan[MOST_PLANS];
        callers = new Caller[MOST_CALLERS];
        log = new CallLog();
    }

    // ---- routes

    public int addRoute(int path, int cost, int least, int greatest)
            throws IllegalArgumentException, IllegalStateException {
        if (!isPath(path) || !isWithin(cost, 1, GREATEST_COST) || !isContract(least, greatest)) {
            throw new IllegalArgumentException("a number is out of range");
        }
        if (routeWithPath(path) != null) {
            throw new IllegalArgumentException("a route has this path");
        }
        int number = routeCount;
        if (number < 0 || number >= routes.length) {
            throw new IllegalStateException("there are 8 routes");
        }
        routes[number] = new Route(number, path, cost, least, greatest);
        routeCount++;
        return number;
    }

    public int route(int path) throws IllegalArgumentException, NoSuchElementException {
        requirePath(path);
        return numberOfFound(routeByTakingOff(path));
    }

    public int routeByComparing(int path) throws IllegalArgumentException, NoSuchElementException {
        requirePath(path);
        return numberOfFound(longestThatFits(path));
    }

    public int setContract(int route, int least, int greatest)
            throws IndexOutOfBoundsException, IllegalArgumentException {
        Route found = existingRoute(route);
        if (!isContract(least, greatest)) {
            throw new IllegalArgumentException("an answer is out of range");
        }
        int before = found.least;
        found.least = least;
        found.greatest = greatest;
        return before;
    }

    public int setAnswer(int route, int answer) throws IndexOutOfBoundsException, IllegalArgumentException {
        Route found = existingRoute(route);
        if (!isAnswer(answer)) {
            throw new IllegalArgumentException("the answer is out of range");
        }
        int before = found.stableAnswer;
        found.stableAnswer = answer;
        return before;
    }

    public char broken(int route) throws IndexOutOfBoundsException {
        Route found = existingRoute(route);
        Canary canary = found.canary;
        boolean byStable = found.isBrokenBy(found.stableAnswer);
        boolean byCanary = canary != null && found.isBrokenBy(canary.answer);
        if (byStable) {
            return byCanary ? 'b' : 's';
        }
        return byCanary ? 'c' : 'n';
    }

    // ---- canaries

    public int begin(int route, int answer, int share, int limit)
            throws IndexOutOfBoundsException, IllegalArgumentException, IllegalStateException {
        Route found = existingRoute(route);
        if (!isAnswer(answer) || !isShare(share) || !isWithin(limit, 1, GREATEST_LIMIT)) {
            throw new IllegalArgumentException("a number is out of range");
        }
        if (found.canary != null) {
            throw new IllegalStateException("the route has a canary");
        }
        found.canary = new Canary(canariesBegun, answer, share, limit);
        canariesBegun++;
        return numberOfCanaries();
    }

    public int setShare(int route, int share)
            throws IndexOutOfBoundsException, IllegalArgumentException, IllegalStateException {
        Route found = existingRoute(route);
        if (!isShare(share)) {
            throw new IllegalArgumentException("the share is out of range");
        }
        Canary canary = existingCanary(found);
        int before = canary.share;
        canary.share = share;
        return before;
    }

    public int promote(int route) throws IndexOutOfBoundsException, IllegalStateException {
        Route found = existingRoute(route);
        Canary canary = existingCanary(found);
        found.stableAnswer = canary.answer;
        found.canary = null;
        return found.stableAnswer;
    }

    public int takeBack(int route) throws IndexOutOfBoundsException, IllegalStateException {
        Route found = existingRoute(route);
        Canary canary = existingCanary(found);
        return endAndUndo(found, canary);
    }

    public boolean hasCanary(int route) throws IndexOutOfBoundsException {
        return existingRoute(route).canary != null;
    }

    public int faults(int route) throws IndexOutOfBoundsException, NoSuchElementException {
        Canary canary = existingRoute(route).canary;
        if (canary == null) {
            throw new NoSuchElementException("the route has no canary");
        }
        return canary.faults;
    }

    // ---- plans and callers

    public int addPlan(int rate, int burst, int price) throws IllegalArgumentException, IllegalStateException {
        if (!isWithin(rate, 1, GREATEST_RATE)
                || !isWithin(burst, 1, GREATEST_BURST)
                || !isWithin(price, 0, GREATEST_PRICE)) {
            throw new IllegalArgumentException("a number is out of range");
        }
        int number = planCount;
        if (number < 0 || number >= plans.length) {
            throw new IllegalStateException("there are 3 plans");
        }
        plans[number] = new Plan(rate, burst, price);
        planCount++;
        return number;
    }

    public int addCaller(int plan) throws IndexOutOfBoundsException, IllegalStateException {
        Plan found = existingPlan(plan);
        int number = callerCount;
        if (number < 0 || number >= callers.length) {
            throw new IllegalStateException("there are 6 callers");
        }
        callers[number] = new Caller(number, found);
        callerCount++;
        return number;
    }

    public int setPlan(int caller, int plan) throws IndexOutOfBoundsException {
        Caller found = existingCaller(caller);
        return found.changePlan(existingPlan(plan));
    }

    public int tokens(int caller) throws IndexOutOfBoundsException {
        return existingCaller(caller).tokens;
    }

    public int ticksUntil(int caller, int route) throws IndexOutOfBoundsException, NoSuchElementException {
        Caller from = existingCaller(caller);
        Route to = existingRoute(route);
        if (to.cost > from.plan.burst) {
            throw new NoSuchElementException("the cost is greater than the burst");
        }
        return from.ticksUntilItHas(to.cost);
    }

    public long bill(int caller) throws IndexOutOfBoundsException {
        return existingCaller(caller).bill;
    }

    public long billByLog(int caller) throws IndexOutOfBoundsException {
        return log.billOf(existingCaller(caller).number);
    }

    // ---- calls and ticks

    public char call(int caller, int path, int key) throws IndexOutOfBoundsException, IllegalArgumentException {
        Caller from = existingCaller(caller);
        if (!isPath(path) || !isWithin(key, 0, GREATEST_KEY)) {
            throw new IllegalArgumentException("it is no path, or the key is out of range");
        }
        // The document ends at 512 calls: one that the log can't hold is let go without a trace.
        if (log.isFull()) {
            return NO_ROUTE;
        }
        return answerCall(from, routeByTakingOff(path), key);
    }

    public int pass(int ticks) throws IllegalArgumentException {
        if (!isWithin(ticks, 1, MOST_TICKS)) {
            throw new IllegalArgumentException("the number of ticks is out of range");
        }
        int got = 0;
        for (Caller caller : callers) {
            if (caller != null) {
                got += caller.gain(caller.plan.rate * ticks);
            }
        }
        return got;
    }

    public int calls() {
        return log.size;
    }

    public int count(int caller, char kind) throws IndexOutOfBoundsException, IllegalArgumentException {
        Caller found = existingCaller(caller);
        if (!isKind(kind)) {
            throw new IllegalArgumentException("there is no such kind");
        }
        return log.numberOf(found.number, kind);
    }

    public boolean isUndone(int call) throws IndexOutOfBoundsException {
        Entry entry = log.entryAt(call);
        if (entry == null) {
            throw new IndexOutOfBoundsException("there is no such call");
        }
        return entry.undone;
    }

    // ---- figures

    public int greatest() throws NoSuchElementException {
        Caller greatest = null;
        for (Caller caller : callers) {
            if (caller != null && (greatest == null || caller.bill > greatest.bill)) {
                greatest = caller;
            }
        }
        if (greatest == null) {
            throw new NoSuchElementException("there are no callers");
        }
        return greatest.number;
    }

    public float canaryShare() throws ArithmeticException {
        int all = log.size;
        if (all == 0) {
            throw new ArithmeticException("there was no call");
        }
        return (float) log.numberOfStandingCanaryCalls() / (float) all;
    }

    public double meanCost() throws ArithmeticException {
        int number = log.numberThatTook();
        if (number == 0) {
            throw new ArithmeticException("there is no such call");
        }
        return (double) log.sumTaken() / (double) number;
    }

    // What the document calls a number in range.

    private static boolean isWithin(int number, int least, int greatest) {
        return number >= least && number <= greatest;
    }

    private static boolean isAnswer(int number) {
        return isWithin(number, 0, GREATEST_ANSWER);
    }

    private static boolean isShare(int number) {
        return isWithin(number, 1, GREATEST_SHARE);
    }

    private static boolean isContract(int least, int greatest) {
        return isAnswer(least) && isWithin(greatest, least, GREATEST_ANSWER);
    }

    private static boolean isKind(char sign) {
        return sign == NO_ROUTE || sign == LIMITED || sign == STABLE || sign == CANARY || sign == FAULT;
    }

    private static boolean isPath(int number) {
        if (!isWithin(number, 0, GREATEST_PATH)) {
            return false;
        }
        int rest = number;
        for (int digit = 0; digit < MOST_DIGITS && rest > 0; digit++) {
            if (rest % 10 == 0) {
                return false;
            }
            rest /= 10;
        }
        return true;
    }

    // What there must be, or the call throws.

    private static void requirePath(int path) throws IllegalArgumentException {
        if (!isPath(path)) {
            throw new IllegalArgumentException("it is no path");
        }
    }

    private static int numberOfFound(Route route) throws NoSuchElementException {
        if (route == null) {
            throw new NoSuchElementException("the path goes to no route");
        }
        return route.number;
    }

    private Route existingRoute(int number) throws IndexOutOfBoundsException {
        Route route = number >= 0 && number < routes.length ? routes[number] : null;
        if (route == null) {
            throw new IndexOutOfBoundsException("there is no such route");
        }
        return route;
    }

    private Plan existingPlan(int number) throws IndexOutOfBoundsException {
        Plan plan = number >= 0 && number < plans.length ? plans[number] : null;
        if (plan == null) {
            throw new IndexOutOfBoundsException("there is no such plan");
        }
        return plan;
    }

    private Caller existingCaller(int number) throws IndexOutOfBoundsException {
        Caller caller = number >= 0 && number < callers.length ? callers[number] : null;
        if (caller == null) {
            throw new IndexOutOfBoundsException("there is no such caller");
        }
        return caller;
    }

    private static Canary existingCanary(Route route) throws IllegalStateException {
        Canary canary = route.canary;
        if (canary == null) {
            throw new IllegalStateException("the route has no canary");
        }
        return canary;
    }

    // To which route a path goes; null if to none.

    private Route routeWithPath(int path) {
        for (Route route : routes) {
            if (route != null && route.path == path) {
                return route;
            }
        }
        return null;
    }

    private Route routeByTakingOff(int path) {
        int rest = path;
        for (int takenOff = 0; takenOff <= MOST_DIGITS; takenOff++) {
            Route found = routeWithPath(rest);
            if (found != null) {
                return found;
            }
            rest /= 10;
        }
        return null;
    }

    private Route longestThatFits(int path) {
        Route longest = null;
        for (Route route : routes) {
            // Of two beginnings of one path, the longer one is the greater number.
            if (route != null && route.fits(path) && (longest == null || route.path > longest.path)) {
                longest = route;
            }
        }
        return longest;
    }

    // What a call does.

    private char answerCall(Caller from, Route to, int key) {
        if (to == null) {
            return enter(from, NO_ROUTE, 0, NO_CANARY);
        }
        if (from.tokens < to.cost) {
            return enter(from, LIMITED, 0, NO_CANARY);
        }
        Canary canary = to.canary;
        if (canary == null || key >= canary.share) {
            return enter(from, STABLE, to.cost, NO_CANARY);
        }
        if (!to.isBrokenBy(canary.answer)) {
            return enter(from, CANARY, to.cost, canary.number);
        }
        canary.faults++;
        if (canary.faults >= canary.limit) {
            endAndUndo(to, canary);
        }
        return enter(from, FAULT, 0, NO_CANARY);
    }

    private char enter(Caller from, char kind, int cost, int canary) {
        int added = cost * from.plan.price;
        from.tokens -= cost;
        from.bill += added;
        log.add(new Entry(from, kind, cost, added, canary));
        return kind;
    }

    private int endAndUndo(Route route, Canary canary) {
        route.canary = null;
        return log.undoCallsOf(canary.number);
    }

    private int numberOfCanaries() {
        int number = 0;
        for (Route route : routes) {
            if (route != null && route.canary != null) {
                number++;
            }
        }
        return number;
    }

    private static final class Route {
        private final int number;
        private final int path;
        private final int cost;
        private int least;
        private int greatest;
        private int stableAnswer;
        private Canary canary;

        private Route(int number, int path, int cost, int least, int greatest) {
            this.number = number;
            this.path = path;
            this.cost = cost;
            this.least = least;
            this.greatest = greatest;
        }

        private boolean fits(int longer) {
            int rest = longer;
            for (int takenOff = 0; takenOff <= MOST_DIGITS; takenOff++) {
                if (rest == path) {
                    return true;
                }
                rest /= 10;
            }
            return false;
        }

        private boolean isBrokenBy(int answer) {
            return answer < least || answer > greatest;
        }
    }

    /** The number tells its calls in the log from those of all canaries before and after it. */
    private static final class Canary {
        private final int number;
        private final int answer;
        private final int limit;
        private int share;
        private int faults;

        private Canary(int number, int answer, int share, int limit) {
            this.number = number;
            this.answer = answer;
            this.share = share;
            this.limit = limit;
        }
    }

    private static final class Plan {
        private final int rate;
        private final int burst;
        private final int price;

        private Plan(int rate, int burst, int price) {
            this.rate = rate;
            this.burst = burst;
            this.price = price;
        }
    }

    /** Its tokens are never more than the burst of its plan. */
    private static final class Caller {
        private final int number;
        private Plan plan;
        private int tokens;
        private long bill;

        private Caller(int number, Plan plan) {
            this.number = number;
            this.plan = plan;
            this.tokens = plan.burst;
        }

        private int gain(int offered) {
            int got = Math.min(offered, plan.burst - tokens);
            tokens += got;
            return got;
        }

        private int changePlan(Plan other) {
            int lost = Math.max(tokens - other.burst, 0);
            plan = other;
            tokens -= lost;
            return lost;
        }

        private int ticksUntilItHas(int wanted) {
            int missing = wanted - tokens;
            int rate = plan.rate;
            if (missing <= 0 || rate <= 0) {
                return 0;
            }
            return (missing + rate - 1) / rate;
        }
    }

    private static final class Entry {
        private final Caller caller;
        private final char kind;
        private final int taken;
        private final int added;
        private final int canary;
        private boolean undone;

        private Entry(Caller caller, char kind, int taken, int added, int canary) {
            this.caller = caller;
            this.kind = kind;
            this.taken = taken;
            this.added = added;
            this.canary = canary;
        }

        private void undo() {
            undone = true;
            caller.gain(taken);
            caller.bill -= added;
        }
    }

    private static final class CallLog {
        private final Entry[] entries = new Entry[MOST_ENTRIES];
        private int size;

        private boolean isFull() {
            return size >= entries.length;
        }

        private void add(Entry entry) {
            if (size >= 0 && size < entries.length) {
                entries[size] = entry;
                size++;
            }
        }

        private Entry entryAt(int index) {
            return index >= 0 && index < entries.length ? entries[index] : null;
        }

        private int undoCallsOf(int canary) {
            int undone = 0;
            for (int i = 0; i < size; i++) {
                Entry entry = entryAt(i);
                if (entry != null && entry.canary == canary) {
                    entry.undo();
                    undone++;
                }
            }
            return undone;
        }

        private long billOf(int caller) {
            long sum = 0;
            for (int i = 0; i < size; i++) {
                Entry entry = entryAt(i);
                if (entry != null && !entry.undone && entry.caller.number == caller) {
                    sum += entry.added;
                }
            }
            return sum;
        }

        private int numberOf(int caller, char kind) {
            int number = 0;
            for (int i = 0; i < size; i++) {
                Entry entry = entryAt(i);
                if (entry != null && entry.kind == kind && entry.caller.number == caller) {
                    number++;
                }
            }
            return number;
        }

        private int numberOfStandingCanaryCalls() {
            int number = 0;
            for (int i = 0; i < size; i++) {
                Entry entry = entryAt(i);
                if (entry != null && !entry.undone && entry.kind == CANARY) {
                    number++;
                }
            }
            return number;
        }

        private int numberThatTook() {
            int number = 0;
            for (int i = 0; i < size; i++) {
                Entry entry = entryAt(i);
                if (entry != null && !entry.undone && entry.taken > 0) {
                    number++;
                }
            }
            return number;
        }

        private int sumTaken() {
            int sum = 0;
            for (int i = 0; i < size; i++) {
                Entry entry = entryAt(i);
                if (entry != null && !entry.undone) {
                    sum += entry.taken;
                }
            }
            return sum;
        }
    }
}
