/** Promise 13: async. */
public final class AsyncTest {
    public static void main(String[] args) {
        awaitsNothing();
        returnsPromise();
        awaitsInTurn();
        awaitMakesNoPromise();
        rejectionEndsIt();
        handlerThrows();
        handlerGivesPromise();
        withoutHandler();
        awaitsThenables();
        takesTheListAsItWas();
        twoTakeTurns();
        wrong();
        Check.end();
    }

    private static void awaitsNothing() {
        PromiseDesk desk = new PromiseDesk();
        int h = desk.handler(1, 0);
        int p = desk.async(7, h);
        Check.due("13: ends at once", "1 7", Check.promise(desk, p));
        Check.due("13: one promise, no job, h is not called", "1 0 0 0 1", Check.counts(desk));
    }

    private static void returnsPromise() {
        PromiseDesk desk = new PromiseDesk();
        int q = desk.broken(6);
        int p = desk.async(q, -1);
        Check.due("13: follows the promise", "0 -1", Check.promise(desk, p));
        Check.due("13: by two jobs", 2, desk.jobs(9));
        Check.due("13: as it", "2 6 3", Check.promise(desk, p) + " " + desk.count(0));
        int t = desk.thenable(1, 0, 4, 0, 0);
        Check.due("13: a thenable that throws", "2 4", Check.promise(desk, desk.async(t, -1)));
    }

    private static void awaitsInTurn() {
        PromiseDesk desk = new PromiseDesk();
        int h = desk.handler(1, 0);
        int q = desk.promise();
        desk.item(5);
        desk.item(q);
        desk.item(-1);
        int p = desk.async(9, h);
        Check.due("13: its promise, then that of 5", "-3 3 1 0 0 1", p + " " + Check.counts(desk));
        Check.due("13: that of 5", "5 5", Check.promise(desk, -4));
        Check.due("13: q is not awaited yet", "0 -1", Check.promise(desk, q));
        Check.due("13: one job", 1, desk.jobs(9));
        Check.due("13: q is now", "4 -1", Check.promise(desk, q));
        desk.settle(q, false, 6);
        Check.due("13: q and undefined", 2, desk.jobs(9));
        Check.due("13: the log", "0:5 0:6 0:-1", Check.log(desk));
        Check.due("13: its end", "1 9", Check.promise(desk, p));
        Check.due("13: objects", 4, desk.count(0));
    }

    private static void awaitMakesNoPromise() {
        PromiseDesk desk = new PromiseDesk();
        int q = desk.wrap(3);
        desk.item(q);
        desk.item(q);
        desk.async(1, -1);
        desk.jobs(9);
        Check.due("13: none but its own", 2, desk.count(0));
        Check.due("13: q is handled", "5 3", Check.promise(desk, q));
    }

    private static void rejectionEndsIt() {
        PromiseDesk desk = new PromiseDesk();
        int h = desk.handler(1, 0);
        desk.item(1);
        desk.item(desk.broken(8));
        desk.item(2);
        int p = desk.async(9, h);
        Check.due("13: two jobs", 2, desk.jobs(9));
        Check.due("13: the reason", "2 8", Check.promise(desk, p));
        Check.due("13: h is not called with it", "0:1", Check.log(desk));
        Check.due("13: nor is 2 awaited", 3, desk.count(0));
    }

    private static void handlerThrows() {
        PromiseDesk desk = new PromiseDesk();
        desk.item(1);
        desk.item(2);
        int p = desk.async(9, desk.handler(2, 44));
        desk.item(3);
        int q = desk.async(9, desk.handler(3, 44));
        desk.jobs(9);
        Check.due("13: what it throws", "2 44 2 3", Check.promise(desk, p) + " " + Check.promise(desk, q));
        Check.due("13: called once each", "0:1 1:3", Check.log(desk));
    }

    private static void handlerGivesPromise() {
        PromiseDesk desk = new PromiseDesk();
        int q = desk.promise();
        int gives = desk.handler(0, q);
        int resolves = desk.handler(4, q);
        desk.item(1);
        int p = desk.async(9, gives);
        Check.due("13: what it gives is dropped", "1 1 9", desk.jobs(9) + " " + Check.promise(desk, p));
        desk.item(4);
        int r = desk.async(8, resolves);
        desk.jobs(9);
        Check.due("13: act 4 in it", "1 4 1 8", Check.promise(desk, q) + " " + Check.promise(desk, r));
    }

    private static void withoutHandler() {
        PromiseDesk desk = new PromiseDesk();
        desk.item(1);
        desk.item(2);
        int p = desk.async(9, -1);
        Check.due("13: two jobs", 2, desk.jobs(9));
        Check.due("13: nothing noted", "1 9 0", Check.promise(desk, p) + " " + desk.count(2));
    }

    private static void awaitsThenables() {
        PromiseDesk desk = new PromiseDesk();
        int h = desk.handler(1, 0);
        int gives = desk.thenable(0, 1, 6, 0, 0);
        int plain = desk.thenable(2, 0, 0, 0, 0);
        int throwing = desk.thenable(1, 0, 5, 0, 0);
        desk.item(gives);
        desk.item(plain);
        desk.item(throwing);
        int p = desk.async(9, h);
        Check.due("13: two jobs, one, one", 4, desk.jobs(9));
        Check.due("13: the log", gives + ":-1 0:6 0:" + plain, Check.log(desk));
        Check.due("13: the throw of the last", "2 5", Check.promise(desk, p));
    }

    private static void takesTheListAsItWas() {
        PromiseDesk desk = new PromiseDesk();
        int h = desk.handler(1, 0);
        desk.item(1);
        desk.item(2);
        desk.async(9, h);
        desk.item(3);
        desk.item(4);
        desk.item(5);
        Check.due("13: the list is new", 3, desk.count(3));
        desk.jobs(9);
        Check.due("13: only the old items", "0:1 0:2", Check.log(desk));
        Check.due("13: the new ones stay", 3, desk.count(3));
    }

    private static void twoTakeTurns() {
        PromiseDesk desk = new PromiseDesk();
        int a = desk.handler(1, 0);
        int b = desk.handler(1, 0);
        desk.item(1);
        desk.item(2);
        desk.async(-1, a);
        desk.item(3);
        desk.item(4);
        desk.async(-1, b);
        desk.jobs(99);
        Check.due("13: turn by turn", "0:1 1:3 0:2 1:4", Check.log(desk));
    }

    private static void wrong() {
        PromiseDesk desk = new PromiseDesk();
        desk.item(1);
        Check.argument("13: end 1000", () -> desk.async(1000, -1));
        Check.argument("13: end its own promise", () -> desk.async(-2, -1));
        Check.argument("13: no handler", () -> desk.async(1, 0));
        Check.argument("13: handler -2", () -> desk.async(1, -2));
        Check.due("13: the list stays", "0 0 0 1 0", Check.counts(desk));
    }
}
