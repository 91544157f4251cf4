/** Boundary cases of promise 4, thenable. */
public final class Promise04BoundaryTest {
    public static void main(String[] args) {
        Check.runAll(Promise04BoundaryTest.class);
    }

    private static void promise4_whatTooSmall() {
        PromiseDesk desk = new PromiseDesk();
        Check.refusedArgument("thenable", desk, () -> desk.thenable(-1, 0, 0, 0, 0),
                () -> desk.thenable(Integer.MIN_VALUE, 0, 0, 0, 0));
    }

    private static void promise4_whatTooLarge() {
        PromiseDesk desk = new PromiseDesk();
        Check.refusedArgument("thenable", desk, () -> desk.thenable(3, 0, 0, 0, 0),
                () -> desk.thenable(Integer.MAX_VALUE, 0, 0, 0, 0));
    }

    private static void promise4_aTooSmall() {
        PromiseDesk desk = new PromiseDesk();
        Check.refusedArgument("thenable", desk, () -> desk.thenable(0, -1, 0, 0, 0),
                () -> desk.thenable(0, Integer.MIN_VALUE, 0, 0, 0));
    }

    private static void promise4_aTooLarge() {
        PromiseDesk desk = new PromiseDesk();
        Check.refusedArgument("thenable", desk, () -> desk.thenable(0, 5, 0, 0, 0),
                () -> desk.thenable(0, Integer.MAX_VALUE, 0, 0, 0));
    }

    private static void promise4_bTooSmall() {
        PromiseDesk desk = new PromiseDesk();
        Check.refusedArgument("thenable", desk, () -> desk.thenable(0, 0, 0, -1, 0),
                () -> desk.thenable(0, 0, 0, Integer.MIN_VALUE, 0));
    }

    private static void promise4_bTooLarge() {
        PromiseDesk desk = new PromiseDesk();
        Check.refusedArgument("thenable", desk, () -> desk.thenable(0, 0, 0, 5, 0),
                () -> desk.thenable(0, 0, 0, Integer.MAX_VALUE, 0));
    }

    private static void promise4_aAndBAreLookedAtWhereThenIsNotCalled() {
        PromiseDesk desk = new PromiseDesk();
        for (int what = 1; what <= 2; what++) {
            int w = what;
            Check.refusedArgument("what " + what, desk, () -> desk.thenable(w, -1, 0, 0, 0),
                    () -> desk.thenable(w, 5, 0, 0, 0), () -> desk.thenable(w, 0, 0, -1, 0),
                    () -> desk.thenable(w, 0, 0, 5, 0));
        }
        Check.refusedArgument("b behind a throw", desk, () -> desk.thenable(0, 3, 0, 5, 0));
    }

    private static void promise4_noValueEvenWhereItIsNotUsed() {
        PromiseDesk desk = Desks.ofEveryKind();
        for (int v : Desks.noValues(desk)) {
            for (int what = 0; what <= 2; what++) {
                int w = what;
                Check.refusedArgument("value " + v + ", what " + what, desk, () -> desk.thenable(w, 1, v, 1, 0),
                        () -> desk.thenable(w, 1, 0, 1, v), () -> desk.thenable(w, 0, v, 0, 0),
                        () -> desk.thenable(w, 0, 0, 0, v));
            }
        }
    }

    private static void promise4_itsOwnValueIsNoneYet() {
        PromiseDesk desk = new PromiseDesk();
        Check.refusedArgument("the next object", desk, () -> desk.thenable(0, 1, -2, 0, 0),
                () -> desk.thenable(0, 0, 0, 1, -2));
        Check.due("it is made behind that", -2, desk.thenable(0, 1, 0, 1, 0));
        Check.due("its value serves the next", -3, desk.thenable(0, 1, -2, 1, -2));
    }

    private static void promise4_leastAndGreatestArguments() {
        PromiseDesk desk = new PromiseDesk();
        Check.due("the least", -2, desk.thenable(0, 0, -1, 0, -1));
        Check.due("the greatest", -3, desk.thenable(2, 4, 999, 4, 999));
        Check.due("their kind", "1 1", desk.kind(-2) + " " + desk.kind(-3));
    }

    /** What comes of a PROMISE that follows a THENABLE, how many JOBS that took, and THE LOG. */
    private static String followed(int what, int a, int v, int b, int w) {
        PromiseDesk desk = new PromiseDesk();
        int p = desk.wrap(desk.thenable(what, a, v, b, w));
        int done = desk.jobs(9);
        return Check.promise(desk, p) + ", " + done + " jobs, log " + Check.log(desk);
    }

    private static void promise4_what0DoesNothingTwice() {
        Check.due("for ever pending", "0 -1, 1 jobs, log -2:-1", followed(0, 0, 1, 0, 2));
    }

    private static void promise4_what0OnlyTheFirstCallCounts() {
        Check.due("first, first", "1 1, 1 jobs, log -2:-1", followed(0, 1, 1, 1, 2));
        Check.due("first, second", "1 1, 1 jobs, log -2:-1", followed(0, 1, 1, 2, 2));
        Check.due("second, first", "2 1, 1 jobs, log -2:-1", followed(0, 2, 1, 1, 2));
        Check.due("second, second", "2 1, 1 jobs, log -2:-1", followed(0, 2, 1, 2, 2));
    }

    private static void promise4_what0ThrowBehindACallCountsNot() {
        Check.due("first, throws", "1 1, 1 jobs, log -2:-1", followed(0, 1, 1, 3, 2));
        Check.due("second, throws", "2 1, 1 jobs, log -2:-1", followed(0, 2, 1, 3, 2));
    }

    private static void promise4_what0BIsNotDoneBehindAThrow() {
        Check.due("throws, first", "2 1, 1 jobs, log -2:-1", followed(0, 3, 1, 1, 2));
        Check.due("throws, throws", "2 1, 1 jobs, log -2:-1", followed(0, 3, 1, 3, 2));
        PromiseDesk desk = new PromiseDesk();
        int t = desk.thenable(0, 3, 1, 4, 2);
        desk.wrap(t);
        desk.jobs(9);
        Check.due("throws, keeps: it keeps none", -1, desk.later(t, false, 1));
    }

    private static void promise4_what0BIsDoneBehindAllOthers() {
        Check.due("nothing, throws", "2 2, 1 jobs, log -2:-1", followed(0, 0, 1, 3, 2));
        Check.due("keeps, first", "1 2, 1 jobs, log -2:-1", followed(0, 4, 1, 1, 2));
        PromiseDesk desk = new PromiseDesk();
        int t = desk.thenable(0, 1, 1, 4, 2);
        desk.wrap(t);
        desk.jobs(9);
        Check.due("first, keeps: it keeps them", 0, desk.later(t, false, 1));
    }

    private static void promise4_what0KeepsTheLastInPlaceOfThoseBefore() {
        PromiseDesk desk = new PromiseDesk();
        int t = desk.thenable(0, 4, 0, 4, 0);
        int p = desk.wrap(t);
        int q = desk.wrap(t);
        desk.jobs(2);
        Check.due("one pair is kept", "1 0", desk.later(t, false, 3) + " " + desk.later(t, false, 4));
        Check.due("that of the last", "0 -1 1 3", Check.promise(desk, p) + " " + Check.promise(desk, q));
    }

    private static void promise4_what0ThrowsUndefined() {
        Check.due("the reason", "2 -1, 1 jobs, log -2:-1", followed(0, 3, -1, 0, 0));
    }

    private static void promise4_what1ThrowsAtOnceAndIsNotNoted() {
        Check.due("v", "2 8, 0 jobs, log ", followed(1, 1, 8, 1, 9));
        Check.due("whatever a is", "2 8, 0 jobs, log ", followed(1, 0, 8, 4, 9));
        Check.due("undefined", "2 -1, 0 jobs, log ", followed(1, 0, -1, 0, 0));
    }

    private static void promise4_what2IsAPlainObjectAndIsNotNoted() {
        Check.due("fulfilled with it", "1 -2, 0 jobs, log ", followed(2, 1, 8, 1, 9));
        Check.due("whatever a is", "1 -2, 0 jobs, log ", followed(2, 3, 8, 4, 9));
    }

    private static void promise4_roomFor8() {
        PromiseDesk desk = Desks.withObjects(Desks.ROOM_FOR_8);
        Check.due("its value", -2 - Desks.ROOM_FOR_8, desk.thenable(0, 0, 0, 0, 0));
    }

    private static void promise4_roomFor7IsTooLittle() {
        PromiseDesk desk = Desks.withObjects(Desks.ROOM_FOR_7);
        Check.refusedState("thenable", desk, () -> desk.thenable(0, 0, 0, 0, 0), () -> desk.thenable(2, 4, 9, 4, 9));
    }

    private static void promise4_wrongArgumentsComeBeforeNoRoom() {
        PromiseDesk desk = Desks.withObjects(Desks.ROOM_FOR_7);
        Check.refusedArgument("thenable", desk, () -> desk.thenable(3, 0, 0, 0, 0), () -> desk.thenable(0, 5, 0, 0, 0),
                () -> desk.thenable(0, 0, 1000, 0, 0), () -> desk.thenable(0, 0, 0, -1, 0),
                () -> desk.thenable(0, 0, 0, 0, -2 - Desks.ROOM_FOR_7));
    }
}
