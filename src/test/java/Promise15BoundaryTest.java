/** Boundary cases of promise 15, state. */
public final class Promise15BoundaryTest {
    public static void main(String[] args) {
        Check.runAll(Promise15BoundaryTest.class);
    }

    private static void promise15_noPromise() {
        PromiseDesk desk = Desks.ofEveryKind();
        int[] values = {-1, 0, 1, 999, Desks.THENABLE, Desks.TYPE_ERROR, Desks.AGGREGATE_ERROR, Desks.ERRORS,
            Desks.ARRAY, Desks.SETTLED};
        for (int p : values) {
            Check.refusedArgument("p " + p, desk, () -> desk.state(p));
        }
    }

    private static void promise15_noObject() {
        PromiseDesk desk = Desks.ofEveryKind();
        for (int p : Desks.noValues(desk)) {
            Check.refusedArgument("p " + p, desk, () -> desk.state(p));
        }
    }

    private static void promise15_firstAndLastObject() {
        PromiseDesk desk = new PromiseDesk();
        for (int i = 0; i < 5; i++) {
            desk.broken(i);
        }
        Check.due("the first", 2, desk.state(-2));
        Check.due("the last", 2, desk.state(-6));
    }

    private static void promise15_everyState() {
        PromiseDesk desk = new PromiseDesk();
        int[] promises = {desk.promise(), desk.wrap(1), desk.broken(1)};
        for (int i = 0; i < 3; i++) {
            Check.due("not handled", i, desk.state(promises[i]));
            desk.then(promises[i], -1, -1, false);
            Check.due("handled", i + 4, desk.state(promises[i]));
            desk.then(promises[i], -1, -1, false);
            Check.due("handled twice", i + 4, desk.state(promises[i]));
        }
    }

    private static void promise15_handledStaysWhenSettled() {
        PromiseDesk desk = new PromiseDesk();
        int p = desk.promise();
        desk.then(p, -1, -1, false);
        desk.settle(p, true, 1);
        Check.due("rejected and handled", 6, desk.state(p));
        desk.jobs(9);
        Check.due("and so behind the jobs", 6, desk.state(p));
    }

    private static void promise15_pendingThoughResolved() {
        PromiseDesk desk = new PromiseDesk();
        int p = desk.promise();
        desk.settle(p, false, desk.promise());
        Check.due("before the job", 0, desk.state(p));
        desk.jobs(9);
        Check.due("behind it", 0, desk.state(p));
    }

    private static void promise15_aFollowedPromiseIsHandledByTheJob() {
        PromiseDesk desk = new PromiseDesk();
        int q = desk.broken(1);
        desk.settle(desk.promise(), false, q);
        Check.due("before the job", 2, desk.state(q));
        desk.jobs(1);
        Check.due("behind it", 6, desk.state(q));
    }

    private static void promise15_noRoomIsNothingToIt() {
        PromiseDesk desk = Desks.withObjects(Desks.ROOM_FOR_7);
        Check.due("the last", 0, desk.state(-1 - Desks.ROOM_FOR_7));
    }
}
