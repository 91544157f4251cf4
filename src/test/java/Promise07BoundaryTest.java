/** Boundary cases of promise 7, then. */
public final class Promise07BoundaryTest {
    public static void main(String[] args) {
        Check.runAll(Promise07BoundaryTest.class);
    }

    private static void promise7_noPromise() {
        PromiseDesk desk = Desks.ofEveryKind();
        int[] values = {-1, 0, 999, Desks.THENABLE, Desks.TYPE_ERROR, Desks.AGGREGATE_ERROR, Desks.ERRORS,
            Desks.ARRAY, Desks.SETTLED};
        for (int p : values) {
            Check.refusedArgument("p " + p, desk, () -> desk.then(p, -1, -1, false), () -> desk.then(p, -1, -1, true));
        }
    }

    private static void promise7_noObject() {
        PromiseDesk desk = Desks.ofEveryKind();
        for (int p : Desks.noValues(desk)) {
            Check.refusedArgument("p " + p, desk, () -> desk.then(p, -1, -1, false), () -> desk.then(p, -1, -1, true));
        }
    }

    private static void promise7_yesOfNoHandler() {
        PromiseDesk desk = Desks.withHandlers(2);
        int p = desk.promise();
        for (int h : Desks.noHandlers(desk)) {
            Check.refusedArgument("yes " + h, desk, () -> desk.then(p, h, -1, false), () -> desk.then(p, h, 0, true));
        }
        Check.due("p is not handled by them", 0, desk.state(p));
    }

    private static void promise7_noOfNoHandlerIfSome() {
        PromiseDesk desk = Desks.withHandlers(2);
        int p = desk.promise();
        for (int h : Desks.noHandlers(desk)) {
            Check.refusedArgument("no " + h, desk, () -> desk.then(p, -1, h, true), () -> desk.then(p, 0, h, true));
        }
        Check.due("p is not handled by them", 0, desk.state(p));
    }

    private static void promise7_noIsNotLookedAtUnlessSome() {
        PromiseDesk desk = Desks.withHandlers(2);
        int p = desk.broken(5);
        int due = -3;
        for (int h : Desks.noHandlers(desk)) {
            Check.due("no " + h, due, desk.then(p, -1, h, false));
            due--;
        }
        Check.due("nor called, if it is a handler", due, desk.then(p, 0, 1, false));
        desk.jobs(99);
        Check.due("the reason goes on", "2 5 0", Check.promise(desk, due) + " " + desk.count(2));
    }

    private static void promise7_firstAndLastHandler() {
        PromiseDesk desk = Desks.withHandlers(3);
        int f = desk.wrap(4);
        int r = desk.broken(5);
        desk.then(f, 0, 2, true);
        desk.then(r, 0, 2, true);
        desk.then(f, 2, 0, true);
        desk.then(r, 2, 0, true);
        desk.jobs(9);
        Check.due("the log", "0:4 2:5 2:4 0:5", Check.log(desk));
    }

    private static void promise7_bothUndefined() {
        PromiseDesk desk = new PromiseDesk();
        int d = desk.then(desk.wrap(4), -1, -1, true);
        int e = desk.then(desk.broken(5), -1, -1, true);
        int f = desk.then(desk.broken(6), -1, -1, false);
        Check.due("a job each", 3, desk.jobs(9));
        Check.due("value and reasons go on", "1 4 2 5 2 6",
                Check.promise(desk, d) + " " + Check.promise(desk, e) + " " + Check.promise(desk, f));
        Check.due("nothing is noted", 0, desk.count(2));
    }

    private static void promise7_undefinedGoesOnToo() {
        PromiseDesk desk = new PromiseDesk();
        int d = desk.then(desk.wrap(-1), -1, -1, true);
        int e = desk.then(desk.broken(-1), -1, -1, true);
        desk.jobs(9);
        Check.due("both", "1 -1 2 -1", Check.promise(desk, d) + " " + Check.promise(desk, e));
    }

    private static void promise7_pendingMakesNoJob() {
        PromiseDesk desk = new PromiseDesk();
        int p = desk.promise();
        int d = desk.then(p, -1, -1, false);
        Check.due("none waits", "2 0 0 0 0", Check.counts(desk));
        Check.due("both pending, p handled", "4 -1 0 -1", Check.promise(desk, p) + " " + Check.promise(desk, d));
        desk.settle(p, false, 1);
        Check.due("one waits", 1, desk.count(1));
    }

    private static void promise7_givesItsOwnPromise() {
        PromiseDesk desk = new PromiseDesk();
        int p = desk.promise();
        int d = desk.then(p, -1, desk.handler(1, 0), true);
        desk.settle(p, true, d);
        Check.due("one job", 1, desk.jobs(9));
        Check.due("rejected with a TypeError", "2 -4 2", Check.promise(desk, d) + " " + desk.kind(-4));
    }

    private static void promise7_roomFor8() {
        PromiseDesk desk = Desks.withObjects(Desks.ROOM_FOR_8);
        Check.due("its promise", -2 - Desks.ROOM_FOR_8, desk.then(-2, -1, -1, false));
    }

    private static void promise7_roomFor7IsTooLittle() {
        PromiseDesk desk = Desks.withObjects(Desks.ROOM_FOR_7);
        int h = desk.handler(1, 0);
        Check.refusedState("then", desk, () -> desk.then(-2, -1, -1, false), () -> desk.then(-2, h, h, true));
        Check.due("p is not handled by it", 0, desk.state(-2));
    }

    private static void promise7_wrongArgumentsComeBeforeNoRoom() {
        PromiseDesk desk = Desks.withObjects(Desks.ROOM_FOR_7);
        Check.refusedArgument("then", desk, () -> desk.then(-1, -1, -1, false), () -> desk.then(-2, 0, -1, false),
                () -> desk.then(-2, -1, 0, true));
    }
}
