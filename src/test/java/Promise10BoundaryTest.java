/** Boundary cases of promise 10, broken. */
public final class Promise10BoundaryTest {
    public static void main(String[] args) {
        Check.runAll(Promise10BoundaryTest.class);
    }

    private static void promise10_noValue() {
        PromiseDesk desk = Desks.ofEveryKind();
        for (int v : Desks.noValues(desk)) {
            Check.refusedArgument("value " + v, desk, () -> desk.broken(v));
        }
    }

    private static void promise10_itsOwnPromiseIsNoValueYet() {
        PromiseDesk desk = new PromiseDesk();
        Check.refusedArgument("the next object", desk, () -> desk.broken(-2));
        Check.due("made behind that", -2, desk.broken(1));
    }

    private static void promise10_leastAndGreatestValue() {
        PromiseDesk desk = new PromiseDesk();
        for (int v : new int[] {-1, 0, 999}) {
            Check.due("value " + v, "2 " + v, Check.promise(desk, desk.broken(v)));
        }
        Check.due("a promise each, no job", "3 0 0 0 0", Check.counts(desk));
    }

    private static void promise10_noReasonIsFollowed() {
        PromiseDesk desk = Desks.ofEveryKind();
        int throwing = desk.thenable(1, 0, 6, 0, 0);
        int[] values = {Desks.PROMISE, Desks.THENABLE, throwing, Desks.TYPE_ERROR, Desks.ARRAY, Desks.SETTLED};
        for (int v : values) {
            Check.due("it is the reason", "2 " + v, Check.promise(desk, desk.broken(v)));
        }
        Check.due("no job, and a promise is not handled by it", "0 2", desk.count(1) + " " + desk.state(Desks.PROMISE));
    }

    private static void promise10_roomFor8() {
        PromiseDesk desk = Desks.withObjects(Desks.ROOM_FOR_8);
        Check.due("its promise", -2 - Desks.ROOM_FOR_8, desk.broken(1));
    }

    private static void promise10_roomFor7IsTooLittle() {
        PromiseDesk desk = Desks.withObjects(Desks.ROOM_FOR_7);
        Check.refusedState("broken", desk, () -> desk.broken(1), () -> desk.broken(-2));
    }

    private static void promise10_wrongArgumentsComeBeforeNoRoom() {
        PromiseDesk desk = Desks.withObjects(Desks.ROOM_FOR_7);
        Check.refusedArgument("broken", desk, () -> desk.broken(1000), () -> desk.broken(-2 - Desks.ROOM_FOR_7));
    }
}
