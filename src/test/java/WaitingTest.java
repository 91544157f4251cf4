/** Promises 7 to 10: then, lastly, wrap, broken. */
public final class WaitingTest {
    public static void main(String[] args) {
        thenPasses();
        thenCatches();
        thenIgnoresNoUnlessSome();
        thenWrong();
        thenGivesPromise();
        thenGivesItself();
        lastlyOnFulfilled();
        lastlyOnRejected();
        lastlyThrows();
        lastlyWaits();
        lastlyWithoutHandler();
        lastlyWrong();
        wrap();
        broken();
        Check.end();
    }

    private static void thenPasses() {
        PromiseDesk desk = new PromiseDesk();
        int p = desk.promise();
        int q = desk.promise();
        int d = desk.then(p, -1, -1, true);
        int e = desk.then(q, -1, -1, false);
        Check.due("7: new promises in order", "-4 -5", d + " " + e);
        Check.due("7: p is handled while pending", 4, desk.state(p));
        desk.settle(p, false, 3);
        desk.settle(q, true, 4);
        Check.due("7: a job each", 2, desk.jobs(9));
        Check.due("7: the value goes on", "1 3", Check.promise(desk, d));
        Check.due("7: the reason goes on", "2 4", Check.promise(desk, e));
        Check.due("7: nothing noted", 0, desk.count(2));
    }

    private static void thenCatches() {
        PromiseDesk desk = new PromiseDesk();
        int gives = desk.handler(1, 0);
        int other = desk.handler(0, 8);
        int p = desk.broken(5);
        int d = desk.then(p, other, gives, true);
        int e = desk.then(d, gives, other, true);
        Check.due("7: one job waits", 1, desk.count(1));
        Check.due("7: two are done", 2, desk.jobs(9));
        Check.due("7: caught", "5 5", Check.promise(desk, d));
        Check.due("7: goes on", "1 5", Check.promise(desk, e));
        Check.due("7: p is rejected and handled", "6 5", Check.promise(desk, p));
        Check.due("7: the log", gives + ":5 " + gives + ":5", Check.log(desk));
    }

    private static void thenIgnoresNoUnlessSome() {
        PromiseDesk desk = new PromiseDesk();
        int h = desk.handler(0, 1);
        int d = desk.then(desk.broken(5), h, h, false);
        int e = desk.then(desk.broken(6), -1, h, true);
        Check.due("7: a number that no handler has, not looked at", -6, desk.then(desk.wrap(1), h, 77, false) + 1);
        desk.jobs(9);
        Check.due("7: no is not given", "2 5", Check.promise(desk, d));
        Check.due("7: no is given", "1 1", Check.promise(desk, e));
    }

    private static void thenWrong() {
        PromiseDesk desk = new PromiseDesk();
        int p = desk.promise();
        int t = desk.thenable(0, 0, 0, 0, 0);
        int h = desk.handler(0, 0);
        Check.argument("7: a thenable", () -> desk.then(t, h, h, true));
        Check.argument("7: undefined", () -> desk.then(-1, h, h, true));
        Check.argument("7: a number", () -> desk.then(3, h, h, true));
        Check.argument("7: no object", () -> desk.then(-4, h, h, true));
        Check.argument("7: yes of no handler", () -> desk.then(p, 1, h, true));
        Check.argument("7: yes -2", () -> desk.then(p, -2, h, true));
        Check.argument("7: no of no handler", () -> desk.then(p, h, 1, true));
        Check.argument("7: no -2", () -> desk.then(p, h, -2, true));
        Check.due("7: nothing done", "2 0 0 0 1", Check.counts(desk));
        Check.due("7: p is not handled", 0, desk.state(p));
    }

    private static void thenGivesPromise() {
        PromiseDesk desk = new PromiseDesk();
        int q = desk.wrap(9);
        int gives = desk.handler(0, q);
        int d = desk.then(desk.wrap(1), gives, -1, false);
        Check.due("7: reaction, follow, reaction", "1 1 1 0", desk.jobs(1) + " " + desk.jobs(1) + " " + desk.jobs(1)
                + " " + desk.jobs(1));
        Check.due("7: as the promise given", "1 9", Check.promise(desk, d));
        Check.due("7: with one more promise", 4, desk.count(0));
    }

    private static void thenGivesItself() {
        PromiseDesk desk = new PromiseDesk();
        int p = desk.promise();
        int gives = desk.handler(1, 0);
        int d = desk.then(p, -1, gives, true);
        desk.settle(p, true, d);
        Check.due("7: one job", 1, desk.jobs(9));
        Check.due("7: a TypeError", "2 -4 2", Check.promise(desk, d) + " " + desk.kind(-4));
    }

    private static void lastlyOnFulfilled() {
        PromiseDesk desk = new PromiseDesk();
        int h = desk.handler(0, 5);
        int p = desk.wrap(9);
        int d = desk.lastly(p, h);
        Check.due("8: one new promise", "-3 2", d + " " + desk.count(0));
        Check.due("8: p is handled", "5 9", Check.promise(desk, p));
        desk.jobs(1);
        Check.due("8: called with undefined", h + ":-1", Check.log(desk));
        Check.due("8: a promise of resolve and one of then", "4 2 1 0 1", Check.counts(desk));
        Check.due("8: resolve's, pending then's", "5 5 0 -1", Check.promise(desk, -4) + " " + Check.promise(desk, -5));
        Check.due("8: three jobs more", 3, desk.jobs(9));
        Check.due("8: the old value", "1 9", Check.promise(desk, d));
        Check.due("8: the promise that follows", "5 9 1 -1", Check.promise(desk, -5) + " " + Check.promise(desk, -6));
        Check.due("8: five in all", 5, desk.count(0));
    }

    private static void lastlyOnRejected() {
        PromiseDesk desk = new PromiseDesk();
        int h = desk.handler(1, 0);
        int d = desk.lastly(desk.broken(9), h);
        Check.due("8: four jobs", 4, desk.jobs(9));
        Check.due("8: the old reason", "2 9", Check.promise(desk, d));
        Check.due("8: the argument given is undefined", "5 -1 6 9",
                Check.promise(desk, -4) + " " + Check.promise(desk, -5));
    }

    private static void lastlyThrows() {
        PromiseDesk desk = new PromiseDesk();
        int value = desk.lastly(desk.wrap(1), desk.handler(2, 7));
        int argument = desk.lastly(desk.broken(2), desk.handler(3, 8));
        Check.due("8: a job each", 2, desk.jobs(9));
        Check.due("8: what it throws", "2 7", Check.promise(desk, value));
        Check.due("8: throws the argument, undefined", "2 -1", Check.promise(desk, argument));
        Check.due("8: no promise more", 4, desk.count(0));
        int q = desk.promise();
        int d = desk.lastly(desk.wrap(1), desk.handler(4, q));
        desk.jobs(9);
        Check.due("8: act 4 resolves with undefined", "1 -1 1 1", Check.promise(desk, q) + " " + Check.promise(desk, d));
    }

    private static void lastlyWaits() {
        PromiseDesk desk = new PromiseDesk();
        int q = desk.promise();
        int d = desk.lastly(desk.wrap(1), desk.handler(0, q));
        desk.jobs(9);
        Check.due("8: waits for the promise given", "0 -1", Check.promise(desk, d));
        Check.due("8: which resolve gives as it is", 5, desk.count(0));
        desk.settle(q, true, 6);
        desk.jobs(9);
        Check.due("8: its reason instead", "2 6", Check.promise(desk, d));
    }

    private static void lastlyWithoutHandler() {
        PromiseDesk desk = new PromiseDesk();
        int d = desk.lastly(desk.wrap(1), -1);
        int e = desk.lastly(desk.broken(2), -1);
        Check.due("8: a job each", 2, desk.jobs(9));
        Check.due("8: as they came", "1 1 2 2", Check.promise(desk, d) + " " + Check.promise(desk, e));
        Check.due("8: no promise more", 4, desk.count(0));
    }

    private static void lastlyWrong() {
        PromiseDesk desk = new PromiseDesk();
        int p = desk.promise();
        int t = desk.thenable(0, 0, 0, 0, 0);
        Check.argument("8: no handler", () -> desk.lastly(p, 0));
        Check.argument("8: handler -2", () -> desk.lastly(p, -2));
        Check.argument("8: a thenable", () -> desk.lastly(t, -1));
        Check.argument("8: undefined", () -> desk.lastly(-1, -1));
        Check.argument("8: no object", () -> desk.lastly(-4, -1));
        Check.due("8: nothing done", "2 0 0 0 0", Check.counts(desk));
    }

    private static void wrap() {
        PromiseDesk desk = new PromiseDesk();
        int p = desk.promise();
        Check.due("9: a promise is given as it is", p, desk.wrap(p));
        Check.due("9: and is not handled by it", "0 -1", Check.promise(desk, p));
        int b = desk.broken(1);
        Check.due("9: so is a rejected one", b, desk.wrap(b));
        Check.due("9: a number", "1 999", Check.promise(desk, desk.wrap(999)));
        Check.due("9: undefined", "1 -1", Check.promise(desk, desk.wrap(-1)));
        int t = desk.thenable(0, 1, p, 0, 0);
        int w = desk.wrap(t);
        Check.due("9: a thenable is followed", "7 1 0 0 0", -w + " " + desk.count(1) + " 0 0 0");
        desk.jobs(9);
        desk.settle(p, false, 2);
        desk.jobs(9);
        Check.due("9: to its end", "1 2", Check.promise(desk, w));
        Check.argument("9: 1000", () -> desk.wrap(1000));
        Check.argument("9: no object", () -> desk.wrap(-3 - desk.count(0)));
    }

    private static void broken() {
        PromiseDesk desk = new PromiseDesk();
        int p = desk.promise();
        int b = desk.broken(p);
        Check.due("10: a promise is the reason", "2 " + p, Check.promise(desk, b));
        int t = desk.thenable(0, 1, 1, 0, 0);
        Check.due("10: so is a thenable", "2 " + t, Check.promise(desk, desk.broken(t)));
        Check.due("10: undefined", "2 -1", Check.promise(desk, desk.broken(-1)));
        Check.due("10: no job", "5 0 0 0 0", Check.counts(desk));
        Check.argument("10: 1000", () -> desk.broken(1000));
        Check.argument("10: -2 - 5", () -> desk.broken(-7));
    }
}
