/** Boundary cases of promise 1, a new object: all that can be empty is. */
public final class Promise01BoundaryTest {
    public static void main(String[] args) {
        Check.runAll(Promise01BoundaryTest.class);
    }

    private static void promise1_noObjects() {
        PromiseDesk desk = new PromiseDesk();
        Check.due("how many", 0, desk.count(0));
        Check.refusedArgument("object 0 is none yet", desk, () -> desk.kind(-2), () -> desk.state(-2),
                () -> desk.result(-2), () -> desk.part(-2, -1), () -> desk.settle(-2, false, 0) ? 1 : 0,
                () -> desk.later(-2, false, 0), () -> desk.then(-2, -1, -1, false), () -> desk.lastly(-2, -1),
                () -> desk.wrap(-2), () -> desk.broken(-2), () -> desk.item(-2), () -> desk.async(-2, -1));
    }

    private static void promise1_noHandlers() {
        PromiseDesk desk = new PromiseDesk();
        Check.due("how many", 0, desk.count(4));
        int p = desk.promise();
        Check.refusedArgument("handler 0 is none yet", desk, () -> desk.then(p, 0, -1, false),
                () -> desk.then(p, -1, 0, true), () -> desk.lastly(p, 0), () -> desk.async(0, 0));
    }

    private static void promise1_noJobs() {
        PromiseDesk desk = new PromiseDesk();
        Check.due("how many", 0, desk.count(1));
        Check.due("one is asked for", 0, desk.jobs(1));
        Check.due("as many as can be are asked for", 0, desk.jobs(Integer.MAX_VALUE));
    }

    private static void promise1_emptyLog() {
        PromiseDesk desk = new PromiseDesk();
        Check.due("how many pairs", 0, desk.count(2));
        Check.due("who", -1000000, desk.log(0, false));
        Check.due("with what", -1000000, desk.log(0, true));
    }

    private static void promise1_emptyList() {
        PromiseDesk desk = new PromiseDesk();
        Check.due("how many values", 0, desk.count(3));
        Check.due("the first makes it one", 1, desk.item(0));
    }

    private static void promise1_desksShareNothing() {
        PromiseDesk used = Desks.ofEveryKind();
        used.handler(1, 0);
        used.item(1);
        used.then(-2, -1, 0, true);
        used.jobs(9);
        used.wrap(-3);
        Check.due("another desk's counts", "15 1 1 1 1", Check.counts(used));
        Check.due("a new desk's counts", "0 0 0 0 0", Check.counts(new PromiseDesk()));
    }

    private static void promise1_theLastOf512CallsAnswers() {
        PromiseDesk desk = new PromiseDesk();
        int gives = desk.handler(1, 0);
        int p = desk.promise();
        for (int call = 3; call <= 509; call++) {
            Check.due("call " + call, -call, desk.then(p, gives, -1, false));
        }
        Check.due("call 510", true, desk.settle(p, false, 999));
        Check.due("call 511", 507, desk.jobs(Integer.MAX_VALUE));
        Check.due("call 512", 999, desk.result(-509));
    }
}
