/** Promises 5 and 6: settle and later. */
public final class SettlingTest {
    public static void main(String[] args) {
        settleOnce();
        settleWrong();
        settleWithItself();
        settleWithPromise();
        settleWithThenable();
        settleWithPlainObjects();
        rejectFollowsNothing();
        settleWakesInOrder();
        laterOnce();
        laterInPlace();
        laterCalledBefore();
        laterWrong();
        laterWithItself();
        Check.end();
    }

    private static void settleOnce() {
        PromiseDesk desk = new PromiseDesk();
        int p = desk.promise();
        int q = desk.promise();
        Check.due("5: first", true, desk.settle(p, false, 3));
        Check.due("5: again", false, desk.settle(p, false, 4));
        Check.due("5: the other function", false, desk.settle(p, true, 4));
        Check.due("5: fulfilled", "1 3", Check.promise(desk, p));
        Check.due("5: rejects", true, desk.settle(q, true, -1));
        Check.due("5: rejected", "2 -1", Check.promise(desk, q));
        Check.due("5: no job without reactions", "2 0 0 0 0", Check.counts(desk));
    }

    private static void settleWrong() {
        PromiseDesk desk = new PromiseDesk();
        int p = desk.promise();
        int t = desk.thenable(0, 0, 0, 0, 0);
        int d = desk.then(p, -1, -1, false);
        int w = desk.wrap(1);
        Check.argument("5: a promise that then made", () -> desk.settle(d, false, 1) ? 1 : 0);
        Check.argument("5: a promise that wrap made", () -> desk.settle(w, false, 1) ? 1 : 0);
        Check.argument("5: a thenable", () -> desk.settle(t, false, 1) ? 1 : 0);
        Check.argument("5: undefined", () -> desk.settle(-1, false, 1) ? 1 : 0);
        Check.argument("5: a number", () -> desk.settle(0, false, 1) ? 1 : 0);
        Check.argument("5: no object", () -> desk.settle(-6, false, 1) ? 1 : 0);
        Check.argument("5: value 1000", () -> desk.settle(p, false, 1000) ? 1 : 0);
        Check.argument("5: value of no object", () -> desk.settle(p, true, -6) ? 1 : 0);
        Check.argument("5: the least int", () -> desk.settle(Integer.MIN_VALUE, true, 0) ? 1 : 0);
        Check.argument("5: the greatest int", () -> desk.settle(Integer.MAX_VALUE, true, 0) ? 1 : 0);
        Check.due("5: none of them called it", true, desk.settle(p, true, 2));
    }

    private static void settleWithItself() {
        PromiseDesk desk = new PromiseDesk();
        int p = desk.promise();
        Check.due("5: with itself", true, desk.settle(p, false, p));
        Check.due("5: a TypeError", "2 -3", Check.promise(desk, p));
        Check.due("5: its kind", 2, desk.kind(-3));
        int q = desk.promise();
        desk.settle(q, true, q);
        Check.due("5: rejected with itself", "2 " + q, Check.promise(desk, q));
        Check.due("5: no further object", 3, desk.count(0));
    }

    private static void settleWithPromise() {
        PromiseDesk desk = new PromiseDesk();
        int p = desk.promise();
        int q = desk.promise();
        Check.due("5: with a pending promise", true, desk.settle(p, false, q));
        Check.due("5: still pending, q not looked at", "0 -1 0 -1", Check.promise(desk, p) + " " + Check.promise(desk, q));
        Check.due("5: but called", false, desk.settle(p, true, 1));
        Check.due("5: a job waits", "2 1 0 0 0", Check.counts(desk));
        desk.jobs(1);
        Check.due("5: q has then's new promise", "3 0 0 0 0", Check.counts(desk));
        Check.due("5: q is handled", "4 -1", Check.promise(desk, q));
        desk.settle(q, true, 7);
        Check.due("5: p waits for the job", "0 -1", Check.promise(desk, p));
        desk.jobs(1);
        Check.due("5: p is as q", "2 7", Check.promise(desk, p));
        Check.due("5: then's new promise is fulfilled", "1 -1", Check.promise(desk, -4));
    }

    private static void settleWithThenable() {
        PromiseDesk desk = new PromiseDesk();
        int p = desk.promise();
        int inner = desk.thenable(0, 2, 3, 0, 0);
        int outer = desk.thenable(0, 1, inner, 1, 9);
        desk.settle(p, false, outer);
        Check.due("5: two thenables, two jobs", 2, desk.jobs(9));
        Check.due("5: rejected by the inner", "2 3", Check.promise(desk, p));
        Check.due("5: the log", outer + ":-1 " + inner + ":-1", Check.log(desk));
        int q = desk.promise();
        int circle = desk.thenable(0, 1, q, 0, 0);
        desk.settle(q, false, circle);
        desk.jobs(9);
        Check.due("5: a thenable that gives q itself", 2, desk.kind(desk.result(q)));
        Check.due("5: rejects it", 2, desk.state(q));
    }

    private static void settleWithPlainObjects() {
        PromiseDesk desk = new PromiseDesk();
        int array = desk.result(desk.combine(0));
        int error = desk.result(desk.combine(2));
        int p = desk.promise();
        int q = desk.promise();
        desk.settle(p, false, array);
        desk.settle(q, false, error);
        Check.due("5: an array has no then", "1 " + array, Check.promise(desk, p));
        Check.due("5: an AggregateError has none", "1 " + error, Check.promise(desk, q));
        Check.due("5: no job", 0, desk.count(1));
    }

    private static void rejectFollowsNothing() {
        PromiseDesk desk = new PromiseDesk();
        int p = desk.promise();
        int t = desk.thenable(1, 0, 4, 0, 0);
        int q = desk.promise();
        desk.settle(p, true, q);
        Check.due("5: a promise as the reason", "2 " + q, Check.promise(desk, p));
        desk.settle(q, true, t);
        Check.due("5: a thenable as the reason", "2 " + t, Check.promise(desk, q));
        Check.due("5: no job", 0, desk.count(1));
    }

    private static void settleWakesInOrder() {
        PromiseDesk desk = new PromiseDesk();
        int p = desk.promise();
        for (int h = 0; h < 4; h++) {
            desk.handler(1, 0);
        }
        desk.then(p, 2, -1, false);
        desk.then(p, 0, -1, false);
        desk.then(p, 3, 3, true);
        desk.settle(p, false, 5);
        desk.then(p, 1, -1, false);
        Check.due("5: four jobs", 4, desk.count(1));
        desk.jobs(9);
        Check.due("5: in the order of then", "2:5 0:5 3:5 1:5", Check.log(desk));
    }

    private static void laterOnce() {
        PromiseDesk desk = new PromiseDesk();
        int t = desk.thenable(0, 4, 0, 0, 0);
        Check.due("6: keeps none yet", -1, desk.later(t, false, 3));
        int p = desk.wrap(t);
        Check.due("6: nor before the job", -1, desk.later(t, true, 3));
        desk.jobs(1);
        Check.due("6: second function", 1, desk.later(t, true, 3));
        Check.due("6: first function behind it", 0, desk.later(t, false, 4));
        Check.due("6: rejected", "2 3", Check.promise(desk, p));
        int other = desk.thenable(0, 0, 0, 0, 0);
        desk.wrap(other);
        desk.jobs(1);
        Check.due("6: one that never keeps", -1, desk.later(other, false, 0));
    }

    private static void laterInPlace() {
        PromiseDesk desk = new PromiseDesk();
        int t = desk.thenable(0, 4, 0, 0, 0);
        int p = desk.wrap(t);
        int q = desk.wrap(t);
        desk.jobs(1);
        Check.due("6: p's functions", 1, desk.later(t, false, 3));
        desk.jobs(1);
        Check.due("6: q's in their place", 1, desk.later(t, false, 4));
        Check.due("6: both fulfilled", "1 3 1 4", Check.promise(desk, p) + " " + Check.promise(desk, q));
        int r = desk.wrap(t);
        int s = desk.wrap(t);
        desk.jobs(2);
        Check.due("6: the last are kept", 1, desk.later(t, false, 5));
        Check.due("6: the ones before are gone", "0 -1 1 5", Check.promise(desk, r) + " " + Check.promise(desk, s));
    }

    private static void laterCalledBefore() {
        PromiseDesk desk = new PromiseDesk();
        int called = desk.thenable(0, 4, 0, 1, 6);
        int thrown = desk.thenable(0, 4, 0, 3, 7);
        int p = desk.wrap(called);
        int q = desk.wrap(thrown);
        desk.jobs(2);
        Check.due("6: called by its then", 0, desk.later(called, false, 1));
        Check.due("6: called by the job that caught its throw", 0, desk.later(thrown, false, 1));
        Check.due("6: as they were", "1 6 2 7", Check.promise(desk, p) + " " + Check.promise(desk, q));
        int twice = desk.thenable(0, 1, 5, 4, 0);
        desk.wrap(twice);
        desk.jobs(1);
        Check.due("6: called first, then kept", 0, desk.later(twice, true, 1));
    }

    private static void laterWrong() {
        PromiseDesk desk = new PromiseDesk();
        int p = desk.promise();
        int t = desk.thenable(0, 4, 0, 0, 0);
        Check.argument("6: a promise", () -> desk.later(p, false, 0));
        Check.argument("6: undefined", () -> desk.later(-1, false, 0));
        Check.argument("6: a number", () -> desk.later(5, false, 0));
        Check.argument("6: no object", () -> desk.later(-4, false, 0));
        Check.argument("6: value 1000, even if it keeps none", () -> desk.later(t, false, 1000));
        Check.argument("6: value of no object", () -> desk.later(t, false, -4));
    }

    private static void laterWithItself() {
        PromiseDesk desk = new PromiseDesk();
        int t = desk.thenable(0, 4, 0, 0, 0);
        int p = desk.wrap(t);
        desk.jobs(1);
        Check.due("6: with the thenable", 1, desk.later(t, false, t));
        Check.due("6: whose then is called again", 1, desk.jobs(9));
        Check.due("6: with new functions", 1, desk.later(t, false, p));
        Check.due("6: p given itself: a TypeError", 2, desk.kind(desk.result(p)));
        Check.due("6: noted twice", t + ":-1 " + t + ":-1", Check.log(desk));
    }
}
