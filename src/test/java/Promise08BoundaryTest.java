/** Boundary cases of promise 8, lastly. */
public final class Promise08BoundaryTest {
    public static void main(String[] args) {
        Check.runAll(Promise08BoundaryTest.class);
    }

    private static void promise8_noPromise() {
        PromiseDesk desk = Desks.ofEveryKind();
        int[] values = {-1, 0, 999, Desks.THENABLE, Desks.TYPE_ERROR, Desks.AGGREGATE_ERROR, Desks.ERRORS,
            Desks.ARRAY, Desks.SETTLED};
        int h = desk.handler(1, 0);
        for (int p : values) {
            Check.refusedArgument("p " + p, desk, () -> desk.lastly(p, -1), () -> desk.lastly(p, h));
        }
    }

    private static void promise8_noObject() {
        PromiseDesk desk = Desks.ofEveryKind();
        for (int p : Desks.noValues(desk)) {
            Check.refusedArgument("p " + p, desk, () -> desk.lastly(p, -1));
        }
    }

    private static void promise8_noHandler() {
        PromiseDesk desk = Desks.withHandlers(2);
        int p = desk.promise();
        for (int h : Desks.noHandlers(desk)) {
            Check.refusedArgument("h " + h, desk, () -> desk.lastly(p, h));
        }
        Check.due("p is not handled by them", 0, desk.state(p));
    }

    private static void promise8_firstAndLastHandler() {
        PromiseDesk desk = Desks.withHandlers(3);
        int p = desk.wrap(4);
        desk.lastly(p, 2);
        desk.lastly(p, 0);
        desk.jobs(99);
        Check.due("the log", "2:-1 0:-1", Check.log(desk));
    }

    private static void promise8_undefinedHandler() {
        PromiseDesk desk = new PromiseDesk();
        int d = desk.lastly(desk.wrap(4), -1);
        int e = desk.lastly(desk.broken(5), -1);
        Check.due("one job each", 2, desk.jobs(9));
        Check.due("as they came", "1 4 2 5", Check.promise(desk, d) + " " + Check.promise(desk, e));
        Check.due("no promise more, nothing noted", "4 0 0 0 0", Check.counts(desk));
    }

    private static void promise8_calledWithUndefinedWhateverCame() {
        PromiseDesk desk = new PromiseDesk();
        int h = desk.handler(1, 0);
        int d = desk.lastly(desk.wrap(999), h);
        int e = desk.lastly(desk.broken(0), h);
        desk.jobs(99);
        Check.due("the log", "0:-1 0:-1", Check.log(desk));
        Check.due("as they came", "1 999 2 0", Check.promise(desk, d) + " " + Check.promise(desk, e));
    }

    private static void promise8_throwsTheArgumentThatIsUndefined() {
        PromiseDesk desk = new PromiseDesk();
        int h = desk.handler(3, 0);
        int d = desk.lastly(desk.wrap(999), h);
        int e = desk.lastly(desk.broken(0), h);
        Check.due("one job each", 2, desk.jobs(9));
        Check.due("both", "2 -1 2 -1", Check.promise(desk, d) + " " + Check.promise(desk, e));
    }

    private static void promise8_thePromisesOfItsStepsCount() {
        PromiseDesk desk = new PromiseDesk();
        int p = desk.wrap(4);
        desk.lastly(p, desk.handler(0, 7));
        Check.due("finally's", 2, desk.count(0));
        Check.due("resolve's and then's, by the first job", "1 4", desk.jobs(1) + " " + desk.count(0));
        Check.due("that of then that a job calls", "3 5", desk.jobs(9) + " " + desk.count(0));
        desk.lastly(p, desk.handler(0, p));
        desk.jobs(99);
        Check.due("resolve makes none of a promise", 8, desk.count(0));
    }

    private static void promise8_pendingMakesNoJob() {
        PromiseDesk desk = new PromiseDesk();
        int p = desk.promise();
        int d = desk.lastly(p, desk.handler(1, 0));
        Check.due("none waits", "2 0 0 0 1", Check.counts(desk));
        Check.due("both pending, p handled", "4 -1 0 -1", Check.promise(desk, p) + " " + Check.promise(desk, d));
    }

    private static void promise8_givesItsOwnPromise() {
        PromiseDesk desk = new PromiseDesk();
        int p = desk.promise();
        int q = desk.promise();
        int d = desk.lastly(p, desk.handler(0, q));
        desk.settle(q, false, d);
        desk.settle(p, false, 1);
        desk.jobs(99);
        Check.due("d waits for q, q for d", "4 -1 4 -1", Check.promise(desk, d) + " " + Check.promise(desk, q));
        Check.due("no job", 0, desk.count(1));
    }

    private static void promise8_roomFor8() {
        PromiseDesk desk = Desks.withObjects(Desks.ROOM_FOR_8);
        Check.due("its promise", -2 - Desks.ROOM_FOR_8, desk.lastly(-2, desk.handler(1, 0)));
    }

    private static void promise8_roomFor7IsTooLittle() {
        PromiseDesk desk = Desks.withObjects(Desks.ROOM_FOR_7);
        int h = desk.handler(1, 0);
        Check.refusedState("lastly", desk, () -> desk.lastly(-2, -1), () -> desk.lastly(-2, h));
        Check.due("p is not handled by it", 0, desk.state(-2));
    }

    private static void promise8_wrongArgumentsComeBeforeNoRoom() {
        PromiseDesk desk = Desks.withObjects(Desks.ROOM_FOR_7);
        Check.refusedArgument("lastly", desk, () -> desk.lastly(-1, -1), () -> desk.lastly(-2, 0),
                () -> desk.lastly(-2, -2));
    }
}
