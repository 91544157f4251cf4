/** Boundary cases of promise 19, log. */
public final class Promise19BoundaryTest {
    private static final int NONE = -1000000;

    public static void main(String[] args) {
        Check.runAll(Promise19BoundaryTest.class);
    }

    private static void promise19_emptyLog() {
        PromiseDesk desk = new PromiseDesk();
        for (int i : new int[] {-1, 0, 1}) {
            Check.due("who " + i, NONE, desk.log(i, false));
            Check.due("what " + i, NONE, desk.log(i, true));
        }
    }

    private static PromiseDesk withTwoPairs() {
        PromiseDesk desk = new PromiseDesk();
        desk.then(desk.wrap(999), desk.handler(1, 0), -1, false);
        desk.wrap(desk.thenable(0, 0, 0, 0, 0));
        desk.jobs(9);
        return desk;
    }

    private static void promise19_firstAndLastPair() {
        PromiseDesk desk = withTwoPairs();
        Check.due("the first: a handler and its argument", "0 999", desk.log(0, false) + " " + desk.log(0, true));
        Check.due("the last: a thenable and undefined", "-4 -1", desk.log(1, false) + " " + desk.log(1, true));
    }

    private static void promise19_tooSmall() {
        PromiseDesk desk = withTwoPairs();
        for (int i : new int[] {-1, -2, Integer.MIN_VALUE, Integer.MIN_VALUE + 1, -(1 << 30)}) {
            Check.due("who " + i, NONE, desk.log(i, false));
            Check.due("what " + i, NONE, desk.log(i, true));
        }
    }

    private static void promise19_tooLarge() {
        PromiseDesk desk = withTwoPairs();
        for (int i : new int[] {2, 3, 1 << 30, (1 << 30) + 1, Integer.MAX_VALUE}) {
            Check.due("who " + i, NONE, desk.log(i, false));
            Check.due("what " + i, NONE, desk.log(i, true));
        }
    }

    private static void promise19_fullLog() {
        PromiseDesk desk = Desks.withNotingJobs(50);
        desk.jobs(4000);
        Check.due("the first", "-81 -1", desk.log(0, false) + " " + desk.log(0, true));
        Check.due("the last", "-2 -1", desk.log(3999, false) + " " + desk.log(3999, true));
        Check.due("none behind it", NONE, desk.log(4000, false));
        Check.due("nor with what", NONE, desk.log(4000, true));
    }

    private static void promise19_aHandlersArgumentMayBeUndefined() {
        PromiseDesk desk = new PromiseDesk();
        desk.then(desk.wrap(-1), desk.handler(1, 0), -1, false);
        desk.jobs(1);
        Check.due("the pair", "0 -1", desk.log(0, false) + " " + desk.log(0, true));
    }

    private static void promise19_aHandlerIsNotedThoughItThrows() {
        PromiseDesk desk = new PromiseDesk();
        desk.then(desk.wrap(5), desk.handler(2, 6), -1, false);
        desk.then(desk.wrap(7), desk.handler(3, 6), -1, false);
        desk.jobs(2);
        Check.due("the log", "0:5 1:7", Check.log(desk));
    }

    private static void promise19_aThenableIsNotedThoughItThrows() {
        PromiseDesk desk = new PromiseDesk();
        desk.wrap(desk.thenable(0, 3, 6, 0, 0));
        desk.jobs(1);
        Check.due("the log", "-2:-1", Check.log(desk));
    }
}
