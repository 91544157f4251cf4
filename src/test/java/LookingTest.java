/** Promises 15 to 20: state, result, kind, part, log, count. */
public final class LookingTest {
    private static final int[] NO_OBJECTS = {-1, 0, 999, 1000, -100, Integer.MIN_VALUE, Integer.MAX_VALUE};

    public static void main(String[] args) {
        states();
        handledByWhat();
        kinds();
        wrongObjects();
        partsOfAll();
        log();
        count();
        Check.end();
    }

    private static void states() {
        PromiseDesk desk = new PromiseDesk();
        int p = desk.promise();
        int f = desk.wrap(3);
        int r = desk.broken(4);
        Check.due("15: pending, fulfilled, rejected", "0 1 2", desk.state(p) + " " + desk.state(f) + " " + desk.state(r));
        Check.due("16: their results", "-1 3 4", desk.result(p) + " " + desk.result(f) + " " + desk.result(r));
        desk.then(p, -1, -1, false);
        desk.then(f, -1, -1, false);
        desk.then(r, -1, -1, false);
        Check.due("15: handled", "4 5 6", desk.state(p) + " " + desk.state(f) + " " + desk.state(r));
        int q = desk.promise();
        desk.settle(q, false, p);
        Check.due("16: resolved but pending", -1, desk.result(q));
    }

    private static void handledByWhat() {
        PromiseDesk desk = new PromiseDesk();
        int byLastly = desk.promise();
        int byCombine = desk.promise();
        int byAwait = desk.promise();
        int byFollow = desk.promise();
        int byWrap = desk.promise();
        desk.lastly(byLastly, -1);
        desk.item(byCombine);
        desk.combine(3);
        desk.item(byAwait);
        desk.async(1, -1);
        desk.settle(desk.promise(), false, byFollow);
        desk.wrap(byWrap);
        Check.due("15: a follower's job is still to come", 0, desk.state(byFollow));
        desk.jobs(9);
        Check.due("15: lastly, combine, await, follow", "4 4 4 4", desk.state(byLastly) + " " + desk.state(byCombine)
                + " " + desk.state(byAwait) + " " + desk.state(byFollow));
        Check.due("15: wrap does not", 0, desk.state(byWrap));
    }

    private static void kinds() {
        PromiseDesk desk = new PromiseDesk();
        int p = desk.promise();
        desk.settle(p, false, p);
        desk.thenable(0, 0, 0, 0, 0);
        desk.combine(2);
        desk.item(1);
        int c = desk.combine(1);
        desk.jobs(9);
        StringBuilder kinds = new StringBuilder();
        for (int k = 0; k < desk.count(0); k++) {
            kinds.append(desk.kind(-2 - k));
        }
        Check.due("17: kinds in order", "02103400054", kinds.toString());
        Check.due("17: of allSettled's array", 4, desk.kind(desk.result(c)));
    }

    private static void wrongObjects() {
        PromiseDesk desk = new PromiseDesk();
        int p = desk.promise();
        int t = desk.thenable(0, 0, 0, 0, 0);
        desk.settle(p, false, p);
        int error = desk.result(p);
        int array = desk.result(desk.combine(0));
        for (int v : NO_OBJECTS) {
            Check.argument("15: state(" + v + ")", () -> desk.state(v));
            Check.argument("16: result(" + v + ")", () -> desk.result(v));
            Check.argument("17: kind(" + v + ")", () -> desk.kind(v));
            Check.argument("18: part(" + v + ", -1)", () -> desk.part(v, -1));
        }
        for (int v : new int[] {t, error, array, -2 - desk.count(0)}) {
            Check.argument("15: state of another object", () -> desk.state(v));
            Check.argument("16: result of another object", () -> desk.result(v));
        }
        for (int v : new int[] {p, t, error}) {
            Check.argument("18: parts of another object", () -> desk.part(v, -1));
            Check.argument("18: a part of another object", () -> desk.part(v, 0));
        }
    }

    private static void partsOfAll() {
        PromiseDesk desk = new PromiseDesk();
        desk.item(7);
        desk.item(-1);
        int all = desk.combine(0);
        desk.item(8);
        int settled = desk.combine(1);
        desk.item(desk.broken(9));
        int any = desk.combine(2);
        desk.jobs(99);
        int array = desk.result(all);
        int object = desk.part(desk.result(settled), 0);
        int error = desk.result(any);
        Check.due("18: of an array", "2 7 -1", desk.part(array, -1) + " " + desk.part(array, 0) + " " + desk.part(array, 1));
        Check.due("18: of an object", "2 1 8", desk.part(object, -1) + " " + desk.part(object, 0) + " " + desk.part(object, 1));
        Check.due("18: of an error", "1 9", desk.part(error, -1) + " " + desk.part(error, 0));
        Check.due("18: of its array", "4 1 9", desk.kind(error - 1) + " " + desk.part(error - 1, -1) + " "
                + desk.part(error - 1, 0));
        for (int i : new int[] {-2, 2, Integer.MIN_VALUE, Integer.MAX_VALUE}) {
            Check.argument("18: array, " + i, () -> desk.part(array, i));
            Check.argument("18: object, " + i, () -> desk.part(object, i));
            Check.argument("18: error, " + i, () -> desk.part(error, i));
        }
        Check.argument("18: error, 1", () -> desk.part(error, 1));
    }

    private static void log() {
        PromiseDesk desk = new PromiseDesk();
        int h = desk.handler(1, 0);
        desk.then(desk.wrap(4), h, -1, false);
        int t = desk.thenable(0, 0, 0, 0, 0);
        desk.wrap(t);
        desk.jobs(9);
        Check.due("19: a handler", "0 4", desk.log(0, false) + " " + desk.log(0, true));
        Check.due("19: a thenable", t + " -1", desk.log(1, false) + " " + desk.log(1, true));
        for (int i : new int[] {-1, 2, Integer.MIN_VALUE, Integer.MAX_VALUE, 1 << 30, 1 << 31}) {
            Check.due("19: none", "-1000000 -1000000", desk.log(i, false) + " " + desk.log(i, true));
        }
    }

    private static void count() {
        PromiseDesk desk = new PromiseDesk();
        desk.handler(1, 0);
        desk.handler(1, 0);
        int p = desk.wrap(4);
        desk.then(p, 0, -1, false);
        desk.then(p, 0, -1, false);
        desk.jobs(1);
        desk.item(1);
        desk.item(1);
        desk.item(1);
        Check.due("20: objects, jobs, pairs, items, handlers", "3 1 1 3 2", Check.counts(desk));
        Check.argument("20: -1", () -> desk.count(-1));
        Check.argument("20: 5", () -> desk.count(5));
        Check.argument("20: the least int", () -> desk.count(Integer.MIN_VALUE));
    }
}
