/** Boundary cases of promise 3, handler. */
public final class Promise03BoundaryTest {
    public static void main(String[] args) {
        Check.runAll(Promise03BoundaryTest.class);
    }

    private static void promise3_actTooSmall() {
        PromiseDesk desk = Desks.ofEveryKind();
        Check.refusedArgument("handler", desk, () -> desk.handler(-1, 0), () -> desk.handler(-1, Desks.PROMISE),
                () -> desk.handler(Integer.MIN_VALUE, 0));
    }

    private static void promise3_actTooLarge() {
        PromiseDesk desk = Desks.ofEveryKind();
        Check.refusedArgument("handler", desk, () -> desk.handler(6, 0), () -> desk.handler(6, Desks.PROMISE),
                () -> desk.handler(Integer.MAX_VALUE, 0));
    }

    private static void promise3_everyActFrom0To5() {
        PromiseDesk desk = new PromiseDesk();
        int p = desk.promise();
        for (int act = 0; act <= 5; act++) {
            Check.due("act " + act, act, desk.handler(act, p));
        }
    }

    private static void promise3_leastAndGreatestValue() {
        PromiseDesk desk = Desks.ofEveryKind();
        int last = -1 - desk.count(0);
        int due = 0;
        for (int act = 0; act <= 3; act++) {
            for (int v : new int[] {-1, 0, 999, -2, last}) {
                Check.due("act " + act + " with " + v, due, desk.handler(act, v));
                due++;
            }
        }
    }

    private static void promise3_noValueEvenWhereTheActUsesNone() {
        PromiseDesk desk = Desks.ofEveryKind();
        for (int v : Desks.noValues(desk)) {
            Check.refusedArgument("value " + v, desk, () -> desk.handler(0, v), () -> desk.handler(1, v),
                    () -> desk.handler(2, v), () -> desk.handler(3, v), () -> desk.handler(4, v), () -> desk.handler(5, v));
        }
    }

    private static void promise3_acts4And5WithNoPromise() {
        PromiseDesk desk = Desks.ofEveryKind();
        int[] values = {-1, 0, 999, Desks.THENABLE, Desks.TYPE_ERROR, Desks.AGGREGATE_ERROR, Desks.ERRORS,
            Desks.ARRAY, Desks.SETTLED};
        for (int v : values) {
            Check.refusedArgument("value " + v, desk, () -> desk.handler(4, v), () -> desk.handler(5, v));
        }
    }

    private static void promise3_acts4And5WithAPromiseThatPromiseDidNotMake() {
        PromiseDesk desk = new PromiseDesk();
        int p = desk.promise();
        int[] others = {desk.then(p, -1, -1, false), desk.lastly(p, -1), desk.wrap(1), desk.broken(1),
            desk.combine(0), desk.combine(1), desk.combine(2), desk.combine(3), desk.async(p, -1)};
        desk.jobs(9);
        int madeByJob = -1 - desk.count(0);
        Check.due("a job made one", 0, desk.kind(madeByJob));
        for (int v : others) {
            Check.refusedArgument("value " + v, desk, () -> desk.handler(4, v), () -> desk.handler(5, v));
        }
        Check.refusedArgument("a job's", desk, () -> desk.handler(4, madeByJob), () -> desk.handler(5, madeByJob));
        Check.due("promise's own", 0, desk.handler(4, p));
    }

    private static void promise3_acts4And5WithASettledPromise() {
        PromiseDesk desk = new PromiseDesk();
        int p = desk.promise();
        desk.settle(p, false, 7);
        int d = desk.then(p, desk.handler(4, p), -1, false);
        int e = desk.then(p, desk.handler(5, p), -1, false);
        Check.due("both are called", 2, desk.jobs(9));
        Check.due("to no effect on p", "5 7", Check.promise(desk, p));
        Check.due("and give undefined", "1 -1 1 -1", Check.promise(desk, d) + " " + Check.promise(desk, e));
    }

    private static void promise3_acts4And5WithAPromiseThatWrapGaveBack() {
        PromiseDesk desk = new PromiseDesk();
        int p = desk.wrap(desk.promise());
        Check.due("act 4", 0, desk.handler(4, p));
        Check.due("act 5", 1, desk.handler(5, p));
    }

    private static void promise3_act4WithTheArgumentItsOwnPromise() {
        PromiseDesk desk = new PromiseDesk();
        int p = desk.promise();
        desk.then(desk.broken(p), -1, desk.handler(4, p), true);
        desk.jobs(9);
        Check.due("p is resolved with itself", "2 -5 2", Check.promise(desk, p) + " " + desk.kind(-5));
    }

    private static void promise3_the1000thIsMade() {
        PromiseDesk desk = Desks.withHandlers(999);
        Check.due("its number", 999, desk.handler(5, desk.promise()));
        Check.due("it can be used", -3, desk.then(-2, 999, 999, true));
    }

    private static void promise3_the1001stIsRefused() {
        PromiseDesk desk = Desks.withHandlers(1000);
        int p = desk.promise();
        Check.refusedState("handler", desk, () -> desk.handler(0, 0), () -> desk.handler(4, p));
        Check.refusedArgument("number 1000 is none", desk, () -> desk.then(p, 1000, -1, false));
    }

    private static void promise3_wrongArgumentsComeBeforeTooMany() {
        PromiseDesk desk = Desks.withHandlers(1000);
        Check.refusedArgument("handler", desk, () -> desk.handler(-1, 0), () -> desk.handler(6, 0),
                () -> desk.handler(0, 1000), () -> desk.handler(0, -2), () -> desk.handler(4, 0));
    }

    private static void promise3_noRoomForObjectsIsNothingToIt() {
        PromiseDesk desk = Desks.withObjects(Desks.ROOM_FOR_7);
        Check.due("act 0", 0, desk.handler(0, 1));
        Check.due("act 4", 1, desk.handler(4, -1 - Desks.ROOM_FOR_7));
    }

    private static void promise3_aFullLogIsNothingToIt() {
        PromiseDesk desk = Desks.withNotingJobs(50);
        desk.jobs(4000);
        Check.due("pairs", 4000, desk.count(2));
        Check.due("handler", 0, desk.handler(0, 1));
    }
}
