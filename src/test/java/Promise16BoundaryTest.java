/** Boundary cases of promise 16, result. */
public final class Promise16BoundaryTest {
    public static void main(String[] args) {
        Check.runAll(Promise16BoundaryTest.class);
    }

    private static void promise16_noPromise() {
        PromiseDesk desk = Desks.ofEveryKind();
        int[] values = {-1, 0, 1, 999, Desks.THENABLE, Desks.TYPE_ERROR, Desks.AGGREGATE_ERROR, Desks.ERRORS,
            Desks.ARRAY, Desks.SETTLED};
        for (int p : values) {
            Check.refusedArgument("p " + p, desk, () -> desk.result(p));
        }
    }

    private static void promise16_noObject() {
        PromiseDesk desk = Desks.ofEveryKind();
        for (int p : Desks.noValues(desk)) {
            Check.refusedArgument("p " + p, desk, () -> desk.result(p));
        }
    }

    private static void promise16_firstAndLastObject() {
        PromiseDesk desk = new PromiseDesk();
        for (int i = 0; i < 5; i++) {
            desk.broken(i);
        }
        Check.due("the first", 0, desk.result(-2));
        Check.due("the last", 4, desk.result(-6));
    }

    private static void promise16_minus1WhilePending() {
        PromiseDesk desk = new PromiseDesk();
        int p = desk.promise();
        Check.due("nothing was called", -1, desk.result(p));
        desk.settle(p, false, desk.wrap(5));
        Check.due("resolved, the first job waits", -1, desk.result(p));
        desk.jobs(1);
        Check.due("the second job waits", -1, desk.result(p));
        desk.jobs(1);
        Check.due("fulfilled", 5, desk.result(p));
    }

    private static void promise16_undefinedWhenSettledSo() {
        PromiseDesk desk = new PromiseDesk();
        Check.due("fulfilled", "1 -1", Check.promise(desk, desk.wrap(-1)));
        Check.due("rejected", "2 -1", Check.promise(desk, desk.broken(-1)));
    }

    private static void promise16_leastAndGreatestValue() {
        PromiseDesk desk = Desks.ofEveryKind();
        int last = -1 - desk.count(0);
        for (int v : new int[] {-1, 0, 999, -2, last}) {
            Check.due("value " + v, v, desk.result(desk.broken(v)));
        }
    }

    private static void promise16_noRoomIsNothingToIt() {
        PromiseDesk desk = Desks.withObjects(Desks.ROOM_FOR_7);
        Check.due("the last", -1, desk.result(-1 - Desks.ROOM_FOR_7));
    }
}
