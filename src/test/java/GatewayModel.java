import java.util.ArrayList;
import java.util.List;
import java.util.NoSuchElementException;

/** The document once more, written in another way than the program: texts as paths, and no sums that are kept. */
public final class GatewayModel {
    private static final class Version {
        int answer;
        int share;
        int limit;
        int faults;
    }

    private static final class ModelRoute {
        String path;
        int cost;
        int least;
        int greatest;
        Version stable = new Version();
        Version canary;
    }

    private static final class ModelCaller {
        int[] plan;
        int tokens;
    }

    private static final class ModelCall {
        int caller;
        char kind;
        int taken;
        int added;
        Version by;
        boolean undone;
    }

    private final List<ModelRoute> routes = new ArrayList<>();
    private final List<int[]> plans = new ArrayList<>();
    private final List<ModelCaller> callers = new ArrayList<>();
    private final List<ModelCall> log = new ArrayList<>();

    private static <T> T at(List<T> list, int index) {
        if (index < 0 || index >= list.size()) {
            throw new IndexOutOfBoundsException();
        }
        return list.get(index);
    }

    private static void need(boolean holds) {
        if (!holds) {
            throw new IllegalArgumentException();
        }
    }

    private static void needState(boolean holds) {
        if (!holds) {
            throw new IllegalStateException();
        }
    }

    private static void needElement(boolean holds) {
        if (!holds) {
            throw new NoSuchElementException();
        }
    }

    private static String textOf(int path) {
        String text = path == 0 ? "" : Integer.toString(path);
        need(text.matches("[1-9]{0,4}"));
        return text;
    }

    private ModelRoute longest(String path) {
        return routes.stream().filter(r -> path.startsWith(r.path))
                .reduce((a, b) -> a.path.length() > b.path.length() ? a : b).orElse(null);
    }

    private static boolean breaks(ModelRoute route, Version version) {
        return version != null && !(route.least <= version.answer && version.answer <= route.greatest);
    }

    private static void needContract(int least, int greatest) {
        need(0 <= least && least <= greatest && greatest <= 999);
    }

    public int addRoute(int path, int cost, int least, int greatest) {
        String text = textOf(path);
        need(cost >= 1 && cost <= 5);
        needContract(least, greatest);
        need(routes.stream().noneMatch(r -> r.path.equals(text)));
        needState(routes.size() < 8);
        ModelRoute route = new ModelRoute();
        route.path = text;
        route.cost = cost;
        route.least = least;
        route.greatest = greatest;
        routes.add(route);
        return routes.size() - 1;
    }

    public int route(int path) {
        ModelRoute found = longest(textOf(path));
        needElement(found != null);
        return routes.indexOf(found);
    }

    public int routeByComparing(int path) {
        return route(path);
    }

    public int setContract(int route, int least, int greatest) {
        ModelRoute r = at(routes, route);
        needContract(least, greatest);
        int before = r.least;
        r.least = least;
        r.greatest = greatest;
        return before;
    }

    public int setAnswer(int route, int answer) {
        ModelRoute r = at(routes, route);
        need(answer >= 0 && answer <= 999);
        int before = r.stable.answer;
        r.stable = new Version();
        r.stable.answer = answer;
        return before;
    }

    public char broken(int route) {
        ModelRoute r = at(routes, route);
        return "nscb".charAt((breaks(r, r.stable) ? 1 : 0) + (breaks(r, r.canary) ? 2 : 0));
    }

    public int begin(int route, int answer, int share, int limit) {
        ModelRoute r = at(routes, route);
        need(answer >= 0 && answer <= 999 && share >= 1 && share <= 100 && limit >= 1 && limit <= 9);
        needState(r.canary == null);
        r.canary = new Version();
        r.canary.answer = answer;
        r.canary.share = share;
        r.canary.limit = limit;
        return (int) routes.stream().filter(each -> each.canary != null).count();
    }

    public int setShare(int route, int share) {
        ModelRoute r = at(routes, route);
        need(share >= 1 && share <= 100);
        needState(r.canary != null);
        int before = r.canary.share;
        r.canary.share = share;
        return before;
    }

    public int promote(int route) {
        ModelRoute r = at(routes, route);
        needState(r.canary != null);
        r.stable = r.canary;
        r.canary = null;
        return r.stable.answer;
    }

    public int takeBack(int route) {
        ModelRoute r = at(routes, route);
        needState(r.canary != null);
        return undo(r);
    }

    private int undo(ModelRoute route) {
        int undone = 0;
        for (ModelCall call : log) {
            if (call.kind == 'c' && call.by == route.canary) {
                ModelCaller caller = callers.get(call.caller);
                caller.tokens = Math.min(caller.plan[1], caller.tokens + call.taken);
                call.undone = true;
                undone++;
            }
        }
        route.canary = null;
        return undone;
    }

    public boolean hasCanary(int route) {
        return at(routes, route).canary != null;
    }

    public int faults(int route) {
        ModelRoute r = at(routes, route);
        needElement(r.canary != null);
        return r.canary.faults;
    }

    public int addPlan(int rate, int burst, int price) {
        need(rate >= 1 && rate <= 20 && burst >= 1 && burst <= 100 && price >= 0 && price <= 99);
        needState(plans.size() < 3);
        plans.add(new int[] {rate, burst, price});
        return plans.size() - 1;
    }

    public int addCaller(int plan) {
        int[] p = at(plans, plan);
        needState(callers.size() < 6);
        ModelCaller caller = new ModelCaller();
        caller.plan = p;
        caller.tokens = p[1];
        callers.add(caller);
        return callers.size() - 1;
    }

    public int setPlan(int caller, int plan) {
        ModelCaller c = at(callers, caller);
        int[] p = at(plans, plan);
        int before = c.tokens;
        c.plan = p;
        c.tokens = Math.min(before, p[1]);
        return before - c.tokens;
    }

    public int tokens(int caller) {
        return at(callers, caller).tokens;
    }

    public int ticksUntil(int caller, int route) {
        ModelCaller c = at(callers, caller);
        ModelRoute r = at(routes, route);
        needElement(r.cost <= c.plan[1]);
        int ticks = 0;
        for (int tokens = c.tokens; tokens < r.cost; tokens = Math.min(c.plan[1], tokens + c.plan[0])) {
            ticks++;
        }
        return ticks;
    }

    public long bill(int caller) {
        at(callers, caller);
        return log.stream().filter(call -> call.caller == caller && !call.undone).mapToLong(call -> call.added).sum();
    }

    public long billByLog(int caller) {
        return bill(caller);
    }

    public char call(int caller, int path, int key) {
        ModelCaller c = at(callers, caller);
        String text = textOf(path);
        need(key >= 0 && key <= 99);
        ModelRoute r = longest(text);
        ModelCall call = new ModelCall();
        call.caller = caller;
        call.kind = kindOf(c, r, key);
        log.add(call);
        if (call.kind == 's' || call.kind == 'c') {
            call.taken = r.cost;
            call.added = r.cost * c.plan[2];
            call.by = call.kind == 'c' ? r.canary : r.stable;
            c.tokens -= r.cost;
        }
        if (call.kind == 'f' && ++r.canary.faults == r.canary.limit) {
            undo(r);
        }
        return call.kind;
    }

    private static char kindOf(ModelCaller caller, ModelRoute route, int key) {
        if (route == null) {
            return 'n';
        }
        if (caller.tokens < route.cost) {
            return 'l';
        }
        if (route.canary == null || key >= route.canary.share) {
            return 's';
        }
        return breaks(route, route.canary) ? 'f' : 'c';
    }

    public int pass(int ticks) {
        need(ticks >= 1 && ticks <= 100);
        int got = 0;
        for (int tick = 0; tick < ticks; tick++) {
            for (ModelCaller c : callers) {
                int before = c.tokens;
                c.tokens = Math.min(c.plan[1], before + c.plan[0]);
                got += c.tokens - before;
            }
        }
        return got;
    }

    public int calls() {
        return log.size();
    }

    public int count(int caller, char kind) {
        at(callers, caller);
        need("nlscf".indexOf(kind) >= 0);
        return (int) log.stream().filter(call -> call.caller == caller && call.kind == kind).count();
    }

    public boolean isUndone(int call) {
        return at(log, call).undone;
    }

    public int greatest() {
        needElement(!callers.isEmpty());
        int best = 0;
        for (int i = 1; i < callers.size(); i++) {
            best = bill(i) > bill(best) ? i : best;
        }
        return best;
    }

    public float canaryShare() {
        if (log.isEmpty()) {
            throw new ArithmeticException();
        }
        return (float) log.stream().filter(call -> call.kind == 'c' && !call.undone).count() / (float) log.size();
    }

    public double meanCost() {
        double sum = 0;
        double number = 0;
        for (ModelCall call : log) {
            if (call.taken != 0 && !call.undone) {
                sum += call.taken;
                number++;
            }
        }
        if (number == 0) {
            throw new ArithmeticException();
        }
        return sum / number;
    }
}
