/** Boundary cases of promise 5, settle. */
public final class Promise05BoundaryTest {
    public static void main(String[] args) {
        Check.runAll(Promise05BoundaryTest.class);
    }

    private static int settle(PromiseDesk desk, int p, boolean rejects, int v) {
        return desk.settle(p, rejects, v) ? 1 : 0;
    }

    private static void promise5_noPromise() {
        PromiseDesk desk = Desks.ofEveryKind();
        int[] values = {-1, 0, 999, Desks.THENABLE, Desks.TYPE_ERROR, Desks.AGGREGATE_ERROR, Desks.ERRORS,
            Desks.ARRAY, Desks.SETTLED};
        for (int p : values) {
            Check.refusedArgument("p " + p, desk, () -> settle(desk, p, false, 0), () -> settle(desk, p, true, 0));
        }
    }

    private static void promise5_noObject() {
        PromiseDesk desk = Desks.ofEveryKind();
        for (int p : Desks.noValues(desk)) {
            Check.refusedArgument("p " + p, desk, () -> settle(desk, p, false, 0), () -> settle(desk, p, true, 0));
        }
    }

    private static void promise5_aPromiseThatPromiseDidNotMake() {
        PromiseDesk desk = new PromiseDesk();
        int p = desk.promise();
        int[] others = {desk.then(p, -1, -1, false), desk.lastly(p, -1), desk.wrap(1), desk.broken(1),
            desk.combine(0), desk.combine(1), desk.combine(2), desk.combine(3), desk.async(p, -1)};
        desk.jobs(9);
        int madeByJob = -1 - desk.count(0);
        Check.due("a job made one", 0, desk.kind(madeByJob));
        for (int other : others) {
            Check.refusedArgument("p " + other, desk, () -> settle(desk, other, false, 0),
                    () -> settle(desk, other, true, 0));
        }
        Check.refusedArgument("a job's", desk, () -> settle(desk, madeByJob, false, 0));
        Check.due("promise's own", true, desk.settle(p, false, 0));
    }

    private static void promise5_noValue() {
        PromiseDesk desk = Desks.ofEveryKind();
        int p = desk.promise();
        for (int v : Desks.noValues(desk)) {
            Check.refusedArgument("value " + v, desk, () -> settle(desk, p, false, v), () -> settle(desk, p, true, v));
        }
        Check.due("none of them called a function", true, desk.settle(p, true, 0));
    }

    private static void promise5_noValueOfACalledOneIsRefusedToo() {
        PromiseDesk desk = new PromiseDesk();
        int p = desk.promise();
        desk.settle(p, false, 1);
        Check.refusedArgument("value 1000", desk, () -> settle(desk, p, false, 1000));
    }

    private static void promise5_leastAndGreatestValue() {
        for (int v : new int[] {-1, 0, 999}) {
            PromiseDesk desk = new PromiseDesk();
            int p = desk.promise();
            int q = desk.promise();
            Check.due("resolves with " + v, true, desk.settle(p, false, v));
            Check.due("rejects with " + v, true, desk.settle(q, true, v));
            Check.due("both", "1 " + v + " 2 " + v, Check.promise(desk, p) + " " + Check.promise(desk, q));
        }
    }

    private static void promise5_calledBeforeByResolving() {
        PromiseDesk desk = new PromiseDesk();
        int p = desk.promise();
        desk.settle(p, false, 1);
        Check.due("resolves", false, desk.settle(p, false, 2));
        Check.due("rejects", false, desk.settle(p, true, 3));
        Check.due("as it was", "1 1", Check.promise(desk, p));
    }

    private static void promise5_calledBeforeByRejecting() {
        PromiseDesk desk = new PromiseDesk();
        int p = desk.promise();
        desk.settle(p, true, 1);
        Check.due("resolves", false, desk.settle(p, false, 2));
        Check.due("rejects", false, desk.settle(p, true, 3));
        Check.due("as it was", "2 1", Check.promise(desk, p));
    }

    private static void promise5_calledBeforeThoughStillPending() {
        PromiseDesk desk = new PromiseDesk();
        int p = desk.promise();
        int q = desk.promise();
        desk.settle(p, false, q);
        Check.due("resolves", false, desk.settle(p, false, 2));
        Check.due("rejects", false, desk.settle(p, true, 3));
        desk.jobs(9);
        Check.due("pending with q", "0 -1", Check.promise(desk, p));
        Check.due("behind the job, too", false, desk.settle(p, false, 4));
        desk.settle(q, false, 5);
        desk.jobs(9);
        Check.due("as q", "1 5", Check.promise(desk, p));
    }

    private static void promise5_calledBeforeByAHandler() {
        PromiseDesk desk = new PromiseDesk();
        int p = desk.promise();
        int q = desk.promise();
        int w = desk.wrap(6);
        desk.then(w, desk.handler(4, p), -1, false);
        desk.then(w, desk.handler(5, q), -1, false);
        desk.jobs(9);
        Check.due("act 4", false, desk.settle(p, true, 1));
        Check.due("act 5", false, desk.settle(q, false, 1));
        Check.due("as they were", "1 6 2 6", Check.promise(desk, p) + " " + Check.promise(desk, q));
    }

    private static void promise5_calledBeforeAHandler() {
        PromiseDesk desk = new PromiseDesk();
        int p = desk.promise();
        desk.then(desk.wrap(6), desk.handler(4, p), -1, false);
        Check.due("the handler's job is still to come", true, desk.settle(p, true, 1));
        desk.jobs(9);
        Check.due("the handler came too late", "2 1", Check.promise(desk, p));
    }

    private static void promise5_resolvesWithItself() {
        PromiseDesk desk = new PromiseDesk();
        int p = desk.promise();
        Check.due("a first call", true, desk.settle(p, false, p));
        Check.due("rejected with a TypeError", "2 -3 2", Check.promise(desk, p) + " " + desk.kind(-3));
        Check.due("no job", "2 0 0 0 0", Check.counts(desk));
        Check.due("again", false, desk.settle(p, false, p));
        Check.due("makes no further one", 2, desk.count(0));
    }

    private static void promise5_rejectsWithItself() {
        PromiseDesk desk = new PromiseDesk();
        int p = desk.promise();
        Check.due("a first call", true, desk.settle(p, true, p));
        Check.due("it is the reason", "2 -2 1", Check.promise(desk, p) + " " + desk.count(0));
    }

    private static void promise5_resolvesInACircle() {
        PromiseDesk desk = new PromiseDesk();
        int p = desk.promise();
        int q = desk.promise();
        desk.settle(p, false, q);
        desk.settle(q, false, p);
        Check.due("a job each", 2, desk.jobs(99));
        Check.due("for ever pending", "4 -1 4 -1", Check.promise(desk, p) + " " + Check.promise(desk, q));
    }

    private static void promise5_resolvesWithObjectsThatHaveNoThen() {
        PromiseDesk desk = Desks.ofEveryKind();
        int[] values = {Desks.TYPE_ERROR, Desks.AGGREGATE_ERROR, Desks.ERRORS, Desks.ARRAY, Desks.SETTLED};
        for (int v : values) {
            int p = desk.promise();
            desk.settle(p, false, v);
            Check.due("fulfilled at once with " + v, "1 " + v + " 0", Check.promise(desk, p) + " " + desk.count(1));
        }
    }

    private static void promise5_roomFor8() {
        PromiseDesk desk = Desks.withObjects(Desks.ROOM_FOR_8);
        Check.due("resolves", true, desk.settle(-2, false, 1));
        Check.due("rejects", true, desk.settle(-3, true, 1));
        Check.due("a called one", false, desk.settle(-3, true, 1));
        Check.due("with itself: a TypeError comes", true, desk.settle(-4, false, -4));
        Check.due("room for 7 now", Desks.ROOM_FOR_7, desk.count(0));
    }

    private static void promise5_roomFor7IsTooLittle() {
        PromiseDesk desk = Desks.withObjects(Desks.ROOM_FOR_7 - 1);
        desk.settle(-2, false, 1);
        desk.promise();
        Check.refusedState("settle", desk, () -> settle(desk, -3, false, 1), () -> settle(desk, -3, true, 1),
                () -> settle(desk, -2, false, 1));
    }

    private static void promise5_wrongArgumentsComeBeforeNoRoom() {
        PromiseDesk desk = Desks.withObjects(Desks.ROOM_FOR_7);
        Check.refusedArgument("settle", desk, () -> settle(desk, -1, false, 1), () -> settle(desk, -2, true, 1000),
                () -> settle(desk, -2, false, -2 - Desks.ROOM_FOR_7));
    }
}
