/** Boundary cases of promise 2, promise. */
public final class Promise02BoundaryTest {
    public static void main(String[] args) {
        Check.runAll(Promise02BoundaryTest.class);
    }

    private static void promise2_theFirstIsObject0() {
        PromiseDesk desk = new PromiseDesk();
        Check.due("its value", -2, desk.promise());
        Check.due("pending and not handled", "0 -1", Check.promise(desk, -2));
    }

    private static void promise2_numberedBehindObjectsOfEveryKind() {
        PromiseDesk desk = Desks.ofEveryKind();
        Check.due("objects before", 13, desk.count(0));
        Check.due("its value", -15, desk.promise());
    }

    private static void promise2_eachKeepsFunctionsOfItsOwn() {
        PromiseDesk desk = new PromiseDesk();
        int p = desk.promise();
        int q = desk.promise();
        Check.due("the first's", true, desk.settle(p, false, 1));
        Check.due("the second's were not called by that", true, desk.settle(q, true, 2));
        Check.due("both", "1 1 2 2", Check.promise(desk, p) + " " + Check.promise(desk, q));
    }

    private static void promise2_roomFor8() {
        PromiseDesk desk = Desks.withObjects(Desks.ROOM_FOR_8);
        Check.due("its value", -2 - Desks.ROOM_FOR_8, desk.promise());
    }

    private static void promise2_roomFor7IsTooLittle() {
        PromiseDesk desk = Desks.withObjects(Desks.ROOM_FOR_7);
        Check.refusedState("promise", desk, desk::promise, desk::promise);
    }
}
