/** Promises 1 to 4: a new object, promise, handler, thenable. */
public final class MakingTest {
    public static void main(String[] args) {
        newObject();
        promise();
        handler();
        handlerActs();
        handlerActsOnPromises();
        thenable();
        thenableActs();
        thenableWithoutThen();
        Check.end();
    }

    private static void newObject() {
        PromiseDesk desk = new PromiseDesk();
        Check.due("1: counts of a new object", "0 0 0 0 0", Check.counts(desk));
        Check.due("1: jobs of a new object", 0, desk.jobs(5));
        Check.due("1: log of a new object", -1000000, desk.log(0, false));
        Check.argument("1: no object 0", () -> desk.kind(-2));
        Check.argument("1: no handler 0", () -> desk.then(desk.promise(), 0, -1, false));
        PromiseDesk other = new PromiseDesk();
        Check.due("1: objects do not share", "0 0 0 0 0", Check.counts(other));
    }

    private static void promise() {
        PromiseDesk desk = new PromiseDesk();
        Check.due("2: the first", -2, desk.promise());
        Check.due("2: the second", -3, desk.promise());
        Check.due("2: pending, not handled", "0 -1", Check.promise(desk, -3));
        Check.due("2: its kind", 0, desk.kind(-2));
        Check.due("2: its functions are kept", true, desk.settle(-3, false, 4));
        Check.due("2: each has its own", "0 -1", Check.promise(desk, -2));
        Check.due("2: counts", "2 0 0 0 0", Check.counts(desk));
    }

    private static void handler() {
        PromiseDesk desk = new PromiseDesk();
        for (int act = 0; act < 4; act++) {
            Check.due("3: numbers from 0", act, desk.handler(act, act == 0 ? -1 : 999));
        }
        int p = desk.promise();
        int q = desk.wrap(1);
        Check.due("3: an object is a value", 4, desk.handler(0, q));
        Check.due("3: act 4", 5, desk.handler(4, p));
        Check.due("3: act 5", 6, desk.handler(5, p));
        Check.argument("3: act -1", () -> desk.handler(-1, 0));
        Check.argument("3: act 6", () -> desk.handler(6, p));
        Check.argument("3: value 1000", () -> desk.handler(0, 1000));
        Check.argument("3: value of no object", () -> desk.handler(1, -4));
        Check.argument("3: act 4 with a number", () -> desk.handler(4, 3));
        Check.argument("3: act 4 with undefined", () -> desk.handler(4, -1));
        Check.argument("3: act 4 with a promise that wrap made", () -> desk.handler(4, q));
        Check.argument("3: act 5 with a promise that then made", () -> desk.handler(5, desk.then(p, -1, -1, false)));
        Check.due("3: those that throw make none", 7, desk.count(4));
    }

    private static void handlerActs() {
        PromiseDesk desk = new PromiseDesk();
        int p = desk.promise();
        for (int act = 0; act < 4; act++) {
            desk.handler(act, 7);
            desk.then(p, act, -1, false);
        }
        desk.settle(p, false, 9);
        Check.due("3: jobs of four thens", 4, desk.jobs(9));
        Check.due("3: noted with the argument", "0:9 1:9 2:9 3:9", Check.log(desk));
        Check.due("3: act 0 gives its value", "1 7", Check.promise(desk, -3));
        Check.due("3: act 1 gives the argument", "1 9", Check.promise(desk, -4));
        Check.due("3: act 2 throws its value", "2 7", Check.promise(desk, -5));
        Check.due("3: act 3 throws the argument", "2 9", Check.promise(desk, -6));
    }

    private static void handlerActsOnPromises() {
        PromiseDesk desk = new PromiseDesk();
        int p = desk.promise();
        int q = desk.promise();
        int r = desk.wrap(6);
        int resolves = desk.handler(4, p);
        int rejects = desk.handler(5, q);
        int d = desk.then(r, resolves, -1, false);
        int e = desk.then(r, rejects, -1, false);
        int f = desk.then(r, desk.handler(5, p), -1, false);
        desk.jobs(9);
        Check.due("3: act 4 resolves", "1 6", Check.promise(desk, p));
        Check.due("3: act 5 rejects", "2 6", Check.promise(desk, q));
        Check.due("3: act 4 gives undefined", "1 -1", Check.promise(desk, d));
        Check.due("3: act 5 gives undefined", "1 -1", Check.promise(desk, e));
        Check.due("3: act 5 on a settled promise", "1 -1", Check.promise(desk, f));
        Check.due("3: settle finds them called", false, desk.settle(p, true, 1));
        Check.due("3: so for the other", false, desk.settle(q, false, 1));
    }

    private static void thenable() {
        PromiseDesk desk = new PromiseDesk();
        Check.due("4: its value", -2, desk.thenable(0, 1, 5, 0, -1));
        Check.due("4: an older one is a value", -3, desk.thenable(2, 4, -2, 4, 999));
        Check.due("4: its kind", 1, desk.kind(-3));
        Check.due("4: no job, nothing noted", "2 0 0 0 0", Check.counts(desk));
        Check.argument("4: what -1", () -> desk.thenable(-1, 0, 0, 0, 0));
        Check.argument("4: what 3", () -> desk.thenable(3, 0, 0, 0, 0));
        Check.argument("4: a -1", () -> desk.thenable(0, -1, 0, 0, 0));
        Check.argument("4: a 5", () -> desk.thenable(1, 5, 0, 0, 0));
        Check.argument("4: b -1", () -> desk.thenable(2, 0, 0, -1, 0));
        Check.argument("4: b 5", () -> desk.thenable(0, 0, 0, 5, 0));
        Check.argument("4: v 1000", () -> desk.thenable(0, 0, 1000, 0, 0));
        Check.argument("4: w the next object", () -> desk.thenable(0, 0, 0, 0, -4));
        Check.due("4: those that throw make none", 2, desk.count(0));
    }

    private static void thenableActs() {
        Check.due("4: nothing", "0 -1 / -2:-1", wrapped(0, 1, 0, 2));
        Check.due("4: first", "1 1 / -2:-1", wrapped(1, 1, 0, 2));
        Check.due("4: second", "2 1 / -2:-1", wrapped(2, 1, 1, 2));
        Check.due("4: throws", "2 1 / -2:-1", wrapped(3, 1, 1, 2));
        Check.due("4: keeps", "0 -1 / -2:-1", wrapped(4, 1, 0, 2));
        Check.due("4: keeps, then first", "1 2 / -2:-1", wrapped(4, 1, 1, 2));
        Check.due("4: first, then throws", "1 1 / -2:-1", wrapped(1, 1, 3, 2));
        Check.due("4: first twice", "1 1 / -2:-1", wrapped(1, 1, 1, 2));
        Check.due("4: nothing, then throws", "2 2 / -2:-1", wrapped(0, 1, 3, 2));
        Check.due("4: nothing, then second", "2 2 / -2:-1", wrapped(0, 1, 2, 2));
        PromiseDesk desk = new PromiseDesk();
        int t = desk.thenable(0, 3, 1, 4, 2);
        desk.wrap(t);
        desk.jobs(9);
        Check.due("4: b is not done behind a throw", -1, desk.later(t, false, 1));
    }

    private static String wrapped(int a, int v, int b, int w) {
        PromiseDesk desk = new PromiseDesk();
        int p = desk.wrap(desk.thenable(0, a, v, b, w));
        Check.due("4: its then waits for a job", "0 -1", Check.promise(desk, p));
        Check.due("4: which is one", 1, desk.jobs(9));
        return Check.promise(desk, p) + " / " + Check.log(desk);
    }

    private static void thenableWithoutThen() {
        PromiseDesk desk = new PromiseDesk();
        int throwing = desk.thenable(1, 0, 8, 1, 6);
        int plain = desk.thenable(2, 1, 8, 1, 6);
        Check.due("4: getting then throws", "2 8", Check.promise(desk, desk.wrap(throwing)));
        Check.due("4: then is no function", "1 " + plain, Check.promise(desk, desk.wrap(plain)));
        Check.due("4: neither makes a job or is noted", "4 0 0 0 0", Check.counts(desk));
    }
}
