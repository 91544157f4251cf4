/** Boundary cases of promise 6, later. */
public final class Promise06BoundaryTest {
    public static void main(String[] args) {
        Check.runAll(Promise06BoundaryTest.class);
    }

    private static void promise6_noThenable() {
        PromiseDesk desk = Desks.ofEveryKind();
        int[] values = {-1, 0, 999, Desks.PROMISE, Desks.TYPE_ERROR, Desks.AGGREGATE_ERROR, Desks.ERRORS,
            Desks.ARRAY, Desks.SETTLED};
        for (int t : values) {
            Check.refusedArgument("t " + t, desk, () -> desk.later(t, false, 0), () -> desk.later(t, true, 0));
        }
    }

    private static void promise6_noObject() {
        PromiseDesk desk = Desks.ofEveryKind();
        for (int t : Desks.noValues(desk)) {
            Check.refusedArgument("t " + t, desk, () -> desk.later(t, false, 0), () -> desk.later(t, true, 0));
        }
    }

    private static void promise6_noValueThoughItKeepsNone() {
        PromiseDesk desk = Desks.ofEveryKind();
        for (int v : Desks.noValues(desk)) {
            Check.refusedArgument("value " + v, desk, () -> desk.later(Desks.THENABLE, false, v),
                    () -> desk.later(Desks.THENABLE, true, v));
        }
    }

    private static void promise6_noValueThoughItKeepsSome() {
        PromiseDesk desk = Desks.ofEveryKind();
        int p = desk.wrap(Desks.THENABLE);
        desk.jobs(1);
        for (int v : Desks.noValues(desk)) {
            Check.refusedArgument("value " + v, desk, () -> desk.later(Desks.THENABLE, false, v),
                    () -> desk.later(Desks.THENABLE, true, v));
        }
        Check.due("none of them called a function", 1, desk.later(Desks.THENABLE, true, 3));
        Check.due("rejected", "2 3", Check.promise(desk, p));
    }

    private static void promise6_keepsNoneBeforeItsThenIsCalled() {
        PromiseDesk desk = new PromiseDesk();
        int t = desk.thenable(0, 4, 0, 0, 0);
        Check.due("nobody follows it", -1, desk.later(t, false, 1));
        int p = desk.wrap(t);
        Check.due("the job is still to come", -1, desk.later(t, true, 1));
        desk.jobs(1);
        Check.due("it is done", 1, desk.later(t, false, 1));
        Check.due("those that answered -1 did nothing", "1 1", Check.promise(desk, p));
    }

    private static void promise6_keepsNoneWithoutThatAct() {
        for (int act = 0; act <= 3; act++) {
            PromiseDesk desk = new PromiseDesk();
            int t = desk.thenable(0, act, 1, act, 1);
            desk.wrap(t);
            desk.jobs(1);
            Check.due("act " + act, "-1 -1", desk.later(t, false, 1) + " " + desk.later(t, true, 1));
        }
    }

    private static void promise6_keepsNoneIfItsThenIsNoFunctionOrThrows() {
        PromiseDesk desk = new PromiseDesk();
        int throwing = desk.thenable(1, 4, 1, 4, 1);
        int plain = desk.thenable(2, 4, 1, 4, 1);
        desk.wrap(throwing);
        desk.wrap(plain);
        desk.jobs(9);
        Check.due("getting it throws", -1, desk.later(throwing, false, 1));
        Check.due("it is no function", -1, desk.later(plain, false, 1));
    }

    private static void promise6_leastAndGreatestValue() {
        PromiseDesk desk = new PromiseDesk();
        int t = desk.thenable(0, 4, 0, 0, 0);
        for (int v : new int[] {-1, 0, 999}) {
            int p = desk.wrap(t);
            int done = desk.jobs(1);
            Check.due("first with " + v, "1 1 1 " + v, done + " " + desk.later(t, false, v) + " " + Check.promise(desk, p));
            int q = desk.wrap(t);
            desk.jobs(1);
            Check.due("second with " + v, "1 2 " + v, desk.later(t, true, v) + " " + Check.promise(desk, q));
        }
    }

    private static void promise6_calledBeforeByLater() {
        for (int before = 0; before < 2; before++) {
            PromiseDesk desk = new PromiseDesk();
            int t = desk.thenable(0, 4, 0, 0, 0);
            int p = desk.wrap(t);
            desk.jobs(1);
            desk.later(t, before == 1, 1);
            Check.due("first", 0, desk.later(t, false, 2));
            Check.due("second", 0, desk.later(t, true, 3));
            Check.due("as it was", (before + 1) + " 1", Check.promise(desk, p));
        }
    }

    private static void promise6_calledBeforeByItsThen() {
        PromiseDesk desk = new PromiseDesk();
        int[] called = {desk.thenable(0, 4, 0, 1, 6), desk.thenable(0, 4, 0, 2, 6), desk.thenable(0, 1, 6, 4, 0),
            desk.thenable(0, 2, 6, 4, 0)};
        String[] due = {"1 6", "2 6", "1 6", "2 6"};
        for (int i = 0; i < called.length; i++) {
            int p = desk.wrap(called[i]);
            desk.jobs(1);
            Check.due("first of " + i, 0, desk.later(called[i], false, 1));
            Check.due("second of " + i, 0, desk.later(called[i], true, 1));
            Check.due("as it was", due[i], Check.promise(desk, p));
        }
    }

    private static void promise6_calledBeforeByTheJobThatCaughtAThrow() {
        PromiseDesk desk = new PromiseDesk();
        int t = desk.thenable(0, 4, 0, 3, 7);
        int p = desk.wrap(t);
        desk.jobs(1);
        Check.due("first", 0, desk.later(t, false, 1));
        Check.due("second", 0, desk.later(t, true, 1));
        Check.due("as it was", "2 7", Check.promise(desk, p));
    }

    private static void promise6_calledBeforeThoughStillPending() {
        PromiseDesk desk = new PromiseDesk();
        int t = desk.thenable(0, 4, 0, 0, 0);
        int p = desk.wrap(t);
        int q = desk.promise();
        desk.jobs(1);
        Check.due("with a pending promise", 1, desk.later(t, false, q));
        Check.due("again", 0, desk.later(t, true, 2));
        Check.due("pending", "0 -1", Check.promise(desk, p));
    }

    private static void promise6_newFunctionsInPlaceOfCalledOnes() {
        PromiseDesk desk = new PromiseDesk();
        int t = desk.thenable(0, 4, 0, 0, 0);
        int p = desk.wrap(t);
        desk.jobs(1);
        Check.due("p's", "1 0", desk.later(t, false, 1) + " " + desk.later(t, false, 2));
        int q = desk.wrap(t);
        Check.due("still p's before the job", 0, desk.later(t, false, 2));
        desk.jobs(1);
        Check.due("q's", "1 0", desk.later(t, true, 3) + " " + desk.later(t, true, 4));
        Check.due("both", "1 1 2 3", Check.promise(desk, p) + " " + Check.promise(desk, q));
    }

    private static void promise6_withTheThenableItself() {
        PromiseDesk desk = new PromiseDesk();
        int t = desk.thenable(0, 4, 0, 0, 0);
        int p = desk.wrap(t);
        desk.jobs(1);
        Check.due("followed again", 1, desk.later(t, false, t));
        Check.due("the old functions until the job", 0, desk.later(t, false, 1));
        desk.jobs(1);
        Check.due("new ones behind it", 1, desk.later(t, false, 2));
        Check.due("p", "1 2", Check.promise(desk, p));
    }

    private static void promise6_withThePromiseThatFollows() {
        PromiseDesk desk = new PromiseDesk();
        int t = desk.thenable(0, 4, 0, 0, 0);
        int p = desk.wrap(t);
        desk.jobs(1);
        Check.due("p with itself", 1, desk.later(t, false, p));
        Check.due("a TypeError", "2 -4 2", Check.promise(desk, p) + " " + desk.kind(-4));
    }

    private static PromiseDesk keeping(int objects) {
        PromiseDesk desk = new PromiseDesk();
        int t = desk.thenable(0, 4, 0, 0, 0);
        desk.wrap(t);
        desk.jobs(1);
        desk.thenable(0, 0, 0, 0, 0);
        while (desk.count(0) < objects) {
            desk.promise();
        }
        return desk;
    }

    private static void promise6_roomFor8() {
        PromiseDesk desk = keeping(Desks.ROOM_FOR_8);
        Check.due("one that keeps none", -1, desk.later(-4, false, 1));
        Check.due("one that keeps some", 1, desk.later(-2, false, 1));
        Check.due("called before", 0, desk.later(-2, false, 1));
    }

    private static void promise6_roomFor7IsTooLittle() {
        PromiseDesk desk = keeping(Desks.ROOM_FOR_7);
        Check.refusedState("later", desk, () -> desk.later(-2, false, 1), () -> desk.later(-2, true, 1),
                () -> desk.later(-4, false, 1));
    }

    private static void promise6_wrongArgumentsComeBeforeNoRoom() {
        PromiseDesk desk = keeping(Desks.ROOM_FOR_7);
        Check.refusedArgument("later", desk, () -> desk.later(-3, false, 1), () -> desk.later(-2, false, 1000),
                () -> desk.later(-2 - Desks.ROOM_FOR_7, false, 1));
    }
}
