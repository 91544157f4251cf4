/** Boundary cases of promise 13, async. */
public final class Promise13BoundaryTest {
    public static void main(String[] args) {
        Check.runAll(Promise13BoundaryTest.class);
    }

    private static void promise13_endOfNoValue() {
        PromiseDesk desk = Desks.ofEveryKind();
        desk.item(1);
        for (int end : Desks.noValues(desk)) {
            Check.refusedArgument("end " + end, desk, () -> desk.async(end, -1));
        }
        Check.due("the list stays", 2, desk.item(2));
    }

    private static void promise13_itsOwnPromiseIsNoValueYet() {
        PromiseDesk desk = new PromiseDesk();
        Check.refusedArgument("the next object", desk, () -> desk.async(-2, -1));
        Check.due("made behind that", -2, desk.async(1, -1));
    }

    private static void promise13_noHandler() {
        PromiseDesk desk = Desks.withHandlers(2);
        desk.item(1);
        for (int h : Desks.noHandlers(desk)) {
            Check.refusedArgument("h " + h, desk, () -> desk.async(0, h));
        }
        Check.due("the list stays", 2, desk.item(2));
    }

    private static void promise13_firstAndLastHandler() {
        PromiseDesk desk = Desks.withHandlers(3);
        desk.item(5);
        desk.async(0, 2);
        desk.item(6);
        desk.async(0, 0);
        desk.jobs(9);
        Check.due("the log", "2:5 0:6", Check.log(desk));
    }

    private static void promise13_noHandlerIsCalledWithMinus1() {
        PromiseDesk desk = Desks.withItems(2);
        int p = desk.async(9, -1);
        Check.due("a job each", 2, desk.jobs(9));
        Check.due("its end, nothing noted", "1 9 0", Check.promise(desk, p) + " " + desk.count(2));
    }

    private static void promise13_leastAndGreatestEnd() {
        PromiseDesk desk = new PromiseDesk();
        for (int end : new int[] {-1, 0, 999}) {
            Check.due("end " + end, "1 " + end, Check.promise(desk, desk.async(end, -1)));
        }
    }

    private static void promise13_emptyListEndsAtOnce() {
        PromiseDesk desk = new PromiseDesk();
        int p = desk.async(7, desk.handler(2, 1));
        Check.due("its end", "1 7", Check.promise(desk, p));
        Check.due("one promise, no job, nothing noted", "1 0 0 0 1", Check.counts(desk));
    }

    private static void promise13_emptyListWithAPromiseAsItsEnd() {
        PromiseDesk desk = new PromiseDesk();
        int q = desk.wrap(4);
        int p = desk.async(q, -1);
        Check.due("follows it", "0 -1 1", Check.promise(desk, p) + " " + desk.count(1));
        Check.due("by two jobs", 2, desk.jobs(9));
        Check.due("as it", "1 4 3", Check.promise(desk, p) + " " + desk.count(0));
    }

    private static void promise13_listOf200() {
        PromiseDesk desk = Desks.withItems(200);
        int h = desk.handler(1, 0);
        int p = desk.async(9, h);
        Check.due("one is awaited", "2 1 0 0 1", Check.counts(desk));
        Check.due("before the last", "199 0 -1", desk.jobs(199) + " " + Check.promise(desk, p));
        Check.due("a promise of resolve each", "201 1 199 0 1", Check.counts(desk));
        desk.jobs(1);
        Check.due("behind it", "1 9 201", Check.promise(desk, p) + " " + desk.count(0));
        Check.due("the first and the last", "0 199", desk.log(0, true) + " " + desk.log(199, true));
        Check.due("none more", -1000000, desk.log(200, true));
    }

    private static void promise13_theListIsEmptyBehindIt() {
        PromiseDesk desk = Desks.withItems(3);
        desk.async(0, -1);
        Check.due("at once", 0, desk.count(3));
        desk.item(7);
        desk.jobs(9);
        Check.due("what came then stays", 1, desk.count(3));
    }

    private static void promise13_anAwaitOfAPromiseMakesNone() {
        PromiseDesk desk = new PromiseDesk();
        int q = desk.wrap(3);
        desk.item(q);
        desk.item(q);
        desk.async(1, -1);
        desk.jobs(9);
        Check.due("none but its own", 2, desk.count(0));
    }

    private static void promise13_aRejectedFirstEndsIt() {
        PromiseDesk desk = new PromiseDesk();
        int q = desk.promise();
        desk.item(desk.broken(-1));
        desk.item(q);
        int p = desk.async(9, desk.handler(1, 0));
        Check.due("one job", 1, desk.jobs(9));
        Check.due("its reason", "2 -1", Check.promise(desk, p));
        Check.due("h is not called, q not awaited", "0 0", desk.count(2) + " " + desk.state(q));
    }

    private static void promise13_aRejectedLastEndsIt() {
        PromiseDesk desk = new PromiseDesk();
        desk.item(1);
        desk.item(desk.broken(2));
        int p = desk.async(9, desk.handler(1, 0));
        Check.due("two jobs", 2, desk.jobs(9));
        Check.due("its reason, h called once", "2 2 0:1", Check.promise(desk, p) + " " + Check.log(desk));
    }

    private static void promise13_aThrowAtTheLastEndsIt() {
        PromiseDesk desk = new PromiseDesk();
        desk.item(1);
        int p = desk.async(9, desk.handler(2, 44));
        Check.due("one job", 1, desk.jobs(9));
        Check.due("what it threw, not the end", "2 44", Check.promise(desk, p));
    }

    private static void promise13_roomFor8() {
        PromiseDesk desk = Desks.withObjects(Desks.ROOM_FOR_8);
        Desks.addItems(desk, 200);
        Check.due("whatever the list has", -2 - Desks.ROOM_FOR_8, desk.async(1, -1));
    }

    private static void promise13_roomFor7IsTooLittle() {
        PromiseDesk desk = Desks.withObjects(Desks.ROOM_FOR_7);
        Check.refusedState("with an empty list", desk, () -> desk.async(1, -1));
        desk.item(1);
        Check.refusedState("with a list", desk, () -> desk.async(1, -1));
        Check.due("the list stays", 1, desk.count(3));
    }

    private static void promise13_wrongArgumentsComeBeforeNoRoom() {
        PromiseDesk desk = Desks.withObjects(Desks.ROOM_FOR_7);
        Check.refusedArgument("async", desk, () -> desk.async(1000, -1), () -> desk.async(1, 0), () -> desk.async(1, -2));
    }
}
