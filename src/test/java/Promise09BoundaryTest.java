/** Boundary cases of promise 9, wrap. */
public final class Promise09BoundaryTest {
    public static void main(String[] args) {
        Check.runAll(Promise09BoundaryTest.class);
    }

    private static void promise9_noValue() {
        PromiseDesk desk = Desks.ofEveryKind();
        for (int v : Desks.noValues(desk)) {
            Check.refusedArgument("value " + v, desk, () -> desk.wrap(v));
        }
    }

    private static void promise9_leastAndGreatestValue() {
        PromiseDesk desk = new PromiseDesk();
        for (int v : new int[] {-1, 0, 999}) {
            Check.due("value " + v, "1 " + v, Check.promise(desk, desk.wrap(v)));
        }
        Check.due("a promise each, no job", "3 0 0 0 0", Check.counts(desk));
    }

    private static void promise9_aPromiseIsGivenBack() {
        PromiseDesk desk = new PromiseDesk();
        int[] promises = {desk.promise(), desk.wrap(1), desk.broken(2), desk.combine(3), desk.async(3, -1)};
        String before = Check.everything(desk);
        for (int p : promises) {
            Check.due("the same", p, desk.wrap(p));
        }
        Check.due("nothing is made, none is handled by it", before, Check.everything(desk));
    }

    private static void promise9_objectsThatHaveNoThen() {
        PromiseDesk desk = Desks.ofEveryKind();
        int[] values = {Desks.TYPE_ERROR, Desks.AGGREGATE_ERROR, Desks.ERRORS, Desks.ARRAY, Desks.SETTLED};
        for (int v : values) {
            Check.due("fulfilled at once", "1 " + v, Check.promise(desk, desk.wrap(v)));
        }
        Check.due("no job", 0, desk.count(1));
    }

    private static void promise9_thenables() {
        PromiseDesk desk = new PromiseDesk();
        int works = desk.thenable(0, 1, 5, 0, 0);
        int throwing = desk.thenable(1, 0, 6, 0, 0);
        int plain = desk.thenable(2, 0, 7, 0, 0);
        int w = desk.wrap(works);
        Check.due("one that works waits for its job", "0 -1", Check.promise(desk, w));
        Check.due("getting then throws", "2 6", Check.promise(desk, desk.wrap(throwing)));
        Check.due("then is no function", "1 " + plain, Check.promise(desk, desk.wrap(plain)));
        Check.due("one job in all", 1, desk.jobs(9));
        Check.due("done", "1 5", Check.promise(desk, w));
    }

    private static void promise9_roomFor8() {
        PromiseDesk desk = Desks.withObjects(Desks.ROOM_FOR_8);
        Check.due("a promise", -2, desk.wrap(-2));
        Check.due("a Number", -2 - Desks.ROOM_FOR_8, desk.wrap(1));
    }

    private static void promise9_roomFor7IsTooLittleEvenForAPromise() {
        PromiseDesk desk = Desks.withObjects(Desks.ROOM_FOR_7);
        Check.refusedState("wrap", desk, () -> desk.wrap(1), () -> desk.wrap(-2));
    }

    private static void promise9_wrongArgumentsComeBeforeNoRoom() {
        PromiseDesk desk = Desks.withObjects(Desks.ROOM_FOR_7);
        Check.refusedArgument("wrap", desk, () -> desk.wrap(1000), () -> desk.wrap(-2 - Desks.ROOM_FOR_7));
    }
}
