/** Boundary cases of promise 20, count. */
public final class Promise20BoundaryTest {
    public static void main(String[] args) {
        Check.runAll(Promise20BoundaryTest.class);
    }

    private static void promise20_whatTooSmall() {
        PromiseDesk desk = Desks.ofEveryKind();
        Check.refusedArgument("count", desk, () -> desk.count(-1), () -> desk.count(Integer.MIN_VALUE));
    }

    private static void promise20_whatTooLarge() {
        PromiseDesk desk = Desks.ofEveryKind();
        Check.refusedArgument("count", desk, () -> desk.count(5), () -> desk.count(Integer.MAX_VALUE));
    }

    private static void promise20_everyWhatOfANewObject() {
        PromiseDesk desk = new PromiseDesk();
        for (int what = 0; what <= 4; what++) {
            Check.due("what " + what, 0, desk.count(what));
        }
    }

    private static void promise20_everyWhatByItself() {
        PromiseDesk desk = new PromiseDesk();
        desk.promise();
        Check.due("an object", "1 0 0 0 0", Check.counts(desk));
        desk.handler(1, 0);
        Check.due("a handler", "1 0 0 0 1", Check.counts(desk));
        desk.item(1);
        Check.due("a value of the list", "1 0 0 1 1", Check.counts(desk));
        desk.then(-2, 0, -1, false);
        desk.settle(-2, false, 1);
        Check.due("a job", "2 1 0 1 1", Check.counts(desk));
        desk.jobs(1);
        Check.due("a pair", "2 0 1 1 1", Check.counts(desk));
    }

    private static void promise20_fullLogAndFullList() {
        PromiseDesk desk = Desks.withNotingJobs(51);
        desk.jobs(4000);
        Desks.addItems(desk, 200);
        Check.due("counts", "131 51 4000 200 0", Check.counts(desk));
    }

    private static void promise20_all1000Handlers() {
        Check.due("handlers", "0 0 0 0 1000", Check.counts(Desks.withHandlers(1000)));
    }

    private static void promise20_everyObjectThatFits() {
        PromiseDesk desk = Desks.withObjects(Desks.ROOM_FOR_7);
        Check.due("objects", Desks.ROOM_FOR_7, desk.count(0));
    }
}
