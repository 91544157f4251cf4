/** What the document says under 'Terms', a test for each of its sentences. */
public final class TermsTest {
    public static void main(String[] args) {
        Check.runAll(TermsTest.class);
    }

    /** How many OBJECTS came with the call. */
    private static int cameWith(PromiseDesk desk, Check.Call call) {
        int before = desk.count(0);
        call.answer();
        return desk.count(0) - before;
    }

    private static void terms_oneQueueFirstInFirstOut() {
        PromiseDesk desk = new PromiseDesk();
        for (int h = 0; h < 4; h++) {
            desk.handler(1, 0);
        }
        int p = desk.wrap(1);
        desk.then(p, 0, -1, false);
        desk.item(2);
        desk.async(0, 1);
        int t = desk.thenable(0, 1, 3, 0, 0);
        desk.then(desk.wrap(t), 2, -1, false);
        desk.lastly(p, 3);
        int follows = desk.promise();
        desk.settle(follows, false, p);
        desk.item(4);
        desk.async(0, 1);
        Check.due("a job of each sort waits", 6, desk.count(1));
        String[] logs = {"0:1", "0:1 1:2", "0:1 1:2 " + t + ":-1", "0:1 1:2 " + t + ":-1 3:-1",
            "0:1 1:2 " + t + ":-1 3:-1", "0:1 1:2 " + t + ":-1 3:-1 1:4", "0:1 1:2 " + t + ":-1 3:-1 1:4 2:3"};
        for (int i = 0; i < logs.length; i++) {
            desk.jobs(1);
            Check.due("the log behind job " + i, logs[i], Check.log(desk));
        }
    }

    private static void terms_noJobIsDoneButByJobs() {
        PromiseDesk desk = new PromiseDesk();
        int h = desk.handler(1, 0);
        int p = desk.wrap(desk.thenable(0, 1, 3, 0, 0));
        desk.then(desk.wrap(1), h, h, true);
        for (int i = 0; i < 3; i++) {
            desk.settle(desk.promise(), false, p);
            desk.item(p);
            desk.combine(i);
            desk.async(p, h);
            desk.lastly(p, h);
        }
        Check.due("nothing was called", 0, desk.count(2));
        Check.due("the thenable's own job is still to come", 4, desk.state(p));
    }

    private static void terms_values() {
        PromiseDesk desk = new PromiseDesk();
        int p = desk.promise();
        for (int v : new int[] {-1, 0, 1, 500, 998, 999, p}) {
            Check.due(v + " is one", "nothing", Check.thrownBy(() -> desk.item(v)));
        }
        for (int v : Desks.noValues(desk)) {
            Check.argument(v + " is none", () -> desk.item(v));
        }
        int next = desk.promise();
        Check.due("OBJECT 1, once it is there", -3, next);
        Check.due("is one then", "nothing", Check.thrownBy(() -> desk.item(next)));
    }

    private static void terms_objectsAreNumberedAsTheyComeToBe() {
        PromiseDesk desk = new PromiseDesk();
        Check.due("by promise", -2, desk.promise());
        Check.due("by thenable", -3, desk.thenable(2, 0, 0, 0, 0));
        Check.due("by then", -4, desk.then(-2, -1, -1, false));
        Check.due("by lastly", -5, desk.lastly(-4, -1));
        Check.due("by wrap", -6, desk.wrap(1));
        Check.due("by broken", -7, desk.broken(1));
        Check.due("by async", -8, desk.async(1, -1));
        desk.item(2);
        Check.due("by combine, in front of those of its steps", -9, desk.combine(1));
        Check.due("two of its steps", 10, desk.count(0));
        desk.settle(-2, false, -2);
        Check.due("a TypeError by settle", -12, desk.result(-2));
        desk.jobs(1);
        Check.due("by a job: the object of allSettled, then the array", "5: 1 2 4: -13",
                Check.parts(desk, -13) + " " + Check.parts(desk, -14));
        Check.due("no HANDLER is one", "0 13", desk.handler(1, 0) + " " + desk.count(0));
    }

    private static void terms_kinds() {
        PromiseDesk desk = Desks.ofEveryKind();
        Check.due("PROMISES", 0, desk.kind(Desks.PROMISE));
        Check.due("THENABLES", 1, desk.kind(Desks.THENABLE));
        Check.due("TypeErrors", 2, desk.kind(Desks.TYPE_ERROR));
        Check.due("AggregateErrors", 3, desk.kind(Desks.AGGREGATE_ERROR));
        Check.due("arrays", 4, desk.kind(Desks.ARRAY));
        Check.due("the objects of allSettled", 5, desk.kind(Desks.SETTLED));
    }

    private static void terms_theArrayOfErrorsStandsBehindItsError() {
        PromiseDesk desk = new PromiseDesk();
        int empty = desk.result(desk.combine(2));
        Check.due("at once", "3 4", desk.kind(empty) + " " + desk.kind(empty - 1));
        desk.item(desk.broken(8));
        desk.item(desk.broken(9));
        int any = desk.combine(2);
        desk.jobs(9);
        int error = desk.result(any);
        Check.due("by a job", "3: 8 9 4: 8 9", Check.parts(desk, error) + " " + Check.parts(desk, error - 1));
        Check.due("nothing behind it", -2 - desk.count(0), error - 2);
    }

    private static void terms_noneButPromisesAndThenablesHasAThen() {
        PromiseDesk desk = Desks.ofEveryKind();
        int[] without = {Desks.TYPE_ERROR, Desks.AGGREGATE_ERROR, Desks.ERRORS, Desks.ARRAY, Desks.SETTLED};
        for (int v : without) {
            Check.due("wrap of " + v, "1 " + v, Check.promise(desk, desk.wrap(v)));
            Check.due("async that ends with " + v, "1 " + v, Check.promise(desk, desk.async(v, -1)));
        }
        Check.due("no job", 0, desk.count(1));
        desk.async(Desks.PROMISE, -1);
        desk.async(Desks.THENABLE, -1);
        Check.due("a job for a PROMISE and a THENABLE", 2, desk.count(1));
    }

    private static void terms_promisesOfTheStepsCount() {
        PromiseDesk desk = new PromiseDesk();
        int p = desk.wrap(1);
        int q = desk.promise();
        Check.due("then", 1, cameWith(desk, () -> desk.then(p, -1, -1, false)));
        desk.jobs(1);
        Check.due("resolve of a Number", 1, cameWith(desk, () -> desk.wrap(1)));
        Check.due("resolve of a PROMISE", 0, cameWith(desk, () -> desk.wrap(p)));
        desk.settle(q, false, p);
        Check.due("then that a JOB calls", 1, cameWith(desk, () -> desk.jobs(1)));
        Check.due("and the JOB behind it", 0, cameWith(desk, () -> desk.jobs(1)));
        Check.due("it is settled so", "1 1", Check.promise(desk, q));
        desk.wrap(desk.thenable(0, 1, 2, 0, 0));
        Check.due("a THENABLE's then that a JOB calls", 0, cameWith(desk, () -> desk.jobs(1)));
        for (int sort = 0; sort < 4; sort++) {
            int combined = sort;
            desk.item(3);
            desk.item(p);
            Check.due("resolve and then of a Number, then of a PROMISE, sort " + sort, 1 + 2 + 1,
                    cameWith(desk, () -> desk.combine(combined)));
        }
    }

    private static void terms_promisesOfFinallyCount() {
        PromiseDesk desk = new PromiseDesk();
        int p = desk.wrap(1);
        int number = desk.handler(0, 2);
        int promise = desk.handler(0, p);
        int thrower = desk.handler(2, 3);
        Check.due("finally", 1, cameWith(desk, () -> desk.lastly(p, number)));
        Check.due("resolve and then of its function", 2, cameWith(desk, () -> desk.jobs(1)));
        Check.due("then of the JOB that follows, all in all", 1, cameWith(desk, () -> desk.jobs(9)));
        desk.lastly(p, promise);
        Check.due("then alone if it gives a PROMISE", 1, cameWith(desk, () -> desk.jobs(1)));
        Check.due("and that of the JOB that follows", 1, cameWith(desk, () -> desk.jobs(9)));
        desk.lastly(p, thrower);
        Check.due("none if it throws", 0, cameWith(desk, () -> desk.jobs(9)));
        desk.lastly(p, -1);
        Check.due("none without it", 0, cameWith(desk, () -> desk.jobs(9)));
    }

    private static void terms_anAwaitMakesNoneButByPromiseResolve() {
        PromiseDesk desk = new PromiseDesk();
        int p = desk.wrap(1);
        desk.item(p);
        desk.item(2);
        desk.item(p);
        Check.due("its PROMISE, and none for the PROMISE that it awaits", 1, cameWith(desk, () -> desk.async(0, -1)));
        Check.due("one for a Number", 1, cameWith(desk, () -> desk.jobs(1)));
        Check.due("none for a PROMISE", 0, cameWith(desk, () -> desk.jobs(1)));
        Check.due("none at the end", 0, cameWith(desk, () -> desk.jobs(9)));
    }

    private static void terms_handlersAreNotedAndThenDoTheirActs() {
        PromiseDesk desk = new PromiseDesk();
        int p = desk.promise();
        int q = desk.promise();
        int[] values = {7, 7, 7, 7, p, q};
        String[] dues = {"1 7", "1 9", "2 7", "2 9", "1 -1", "1 -1"};
        int[] made = new int[6];
        int source = desk.wrap(9);
        for (int act = 0; act < 6; act++) {
            Check.due("numbered from 0", act, desk.handler(act, values[act]));
            made[act] = desk.then(source, act, -1, false);
        }
        desk.jobs(6);
        for (int act = 0; act < 6; act++) {
            Check.due("act " + act, dues[act], Check.promise(desk, made[act]));
        }
        Check.due("act 4 resolves its PROMISE, act 5 rejects it", "1 9 2 9",
                Check.promise(desk, p) + " " + Check.promise(desk, q));
        Check.due("all are noted, those that throw too", "0:9 1:9 2:9 3:9 4:9 5:9", Check.log(desk));
    }

    private static void terms_theLogHasHandlersAndThenables() {
        PromiseDesk desk = new PromiseDesk();
        int h = desk.handler(1, 0);
        int works = desk.thenable(0, 1, 6, 0, 0);
        desk.wrap(desk.thenable(1, 0, 6, 0, 0));
        desk.wrap(desk.thenable(2, 0, 6, 0, 0));
        int p = desk.wrap(works);
        desk.then(p, h, -1, false);
        desk.item(p);
        desk.combine(1);
        Check.due("getting a then is not noted", "", Check.log(desk));
        desk.jobs(9);
        Check.due("its call is, the standard's own functions are not", works + ":-1 0:6", Check.log(desk));
    }

    private static void terms_theListIsEmptyAgainBehindCombineAndAsync() {
        PromiseDesk desk = new PromiseDesk();
        desk.item(1);
        desk.item(2);
        int p = desk.wrap(3);
        desk.then(p, -1, -1, false);
        desk.jobs(9);
        Check.due("other calls leave it", 2, desk.count(3));
        int all = desk.combine(0);
        Check.due("behind combine", 0, desk.count(3));
        desk.item(4);
        desk.async(5, -1);
        Check.due("behind async", 0, desk.count(3));
        desk.item(6);
        desk.jobs(9);
        Check.due("what came later is not of it", "4: 1 2", Check.parts(desk, desk.result(all)));
        Check.due("and stays", 1, desk.count(3));
    }

    private static void terms_wrongArgumentsThrowBeforeAllElse() {
        PromiseDesk desk = Desks.withObjects(Desks.ROOM_FOR_7);
        int none = -2 - desk.count(0);
        Check.refusedState("no room", desk, () -> desk.promise(), () -> desk.thenable(0, 0, 0, 0, 0),
                () -> desk.settle(-2, false, 0) ? 1 : 0, () -> desk.then(-2, -1, -1, true), () -> desk.lastly(-2, -1),
                () -> desk.wrap(0), () -> desk.broken(0), () -> desk.combine(0), () -> desk.async(0, -1));
        Check.refusedArgument("no room, and a wrong argument", desk, () -> desk.thenable(0, 0, 0, 0, none),
                () -> desk.settle(-2, false, none) ? 1 : 0, () -> desk.later(-2, false, 0),
                () -> desk.then(-2, -1, 0, true), () -> desk.lastly(none, -1), () -> desk.wrap(none),
                () -> desk.broken(1000), () -> desk.combine(4), () -> desk.async(0, 0));
    }

    private static void terms_aCallThatThrowsDoesNothing() {
        PromiseDesk desk = Desks.ofEveryKind();
        int h = desk.handler(1, 0);
        desk.item(1);
        int p = desk.promise();
        desk.then(p, h, -1, false);
        Check.refusedArgument("wrong arguments", desk, () -> desk.handler(6, 0), () -> desk.thenable(0, 5, 0, 0, 0),
                () -> desk.settle(p, false, 1000) ? 1 : 0, () -> desk.later(p, false, 0),
                () -> desk.then(p, 1, -1, false), () -> desk.lastly(p, 1), () -> desk.wrap(1000),
                () -> desk.broken(1000), () -> desk.item(1000), () -> desk.combine(4), () -> desk.async(0, 1),
                () -> desk.async(1000, h));
        Check.due("its functions have not been called", true, desk.settle(p, false, 2));
        Check.due("the job comes by that alone", 1, desk.jobs(9));
    }
}
