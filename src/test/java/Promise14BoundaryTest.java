/** Boundary cases of promise 14, jobs. */
public final class Promise14BoundaryTest {
    public static void main(String[] args) {
        Check.runAll(Promise14BoundaryTest.class);
    }

    /** A desk on which that many JOBS wait, none of which makes another. */
    private static PromiseDesk withJobs(int jobs) {
        PromiseDesk desk = new PromiseDesk();
        int p = desk.wrap(1);
        for (int i = 0; i < jobs; i++) {
            desk.then(p, -1, -1, false);
        }
        return desk;
    }

    private static void promise14_noneAskedFor() {
        PromiseDesk desk = withJobs(3);
        String before = Check.everything(desk);
        Check.due("0", 0, desk.jobs(0));
        Check.due("nothing is done", before, Check.everything(desk));
    }

    private static void promise14_fewerThanNoneAskedFor() {
        PromiseDesk desk = withJobs(3);
        String before = Check.everything(desk);
        Check.due("-1", 0, desk.jobs(-1));
        Check.due("the least int", 0, desk.jobs(Integer.MIN_VALUE));
        Check.due("nothing is done", before, Check.everything(desk));
    }

    private static void promise14_noneWaits() {
        PromiseDesk desk = new PromiseDesk();
        desk.then(desk.promise(), -1, -1, false);
        Check.due("1", 0, desk.jobs(1));
        Check.due("the greatest int", 0, desk.jobs(Integer.MAX_VALUE));
    }

    private static void promise14_fewerThanWait() {
        PromiseDesk desk = withJobs(3);
        Check.due("2 of 3", "2 1", desk.jobs(2) + " " + desk.count(1));
        Check.due("the first two", "1 1 0", desk.state(-3) + " " + desk.state(-4) + " " + desk.state(-5));
    }

    private static void promise14_asManyAsWait() {
        PromiseDesk desk = withJobs(3);
        Check.due("3 of 3", "3 0", desk.jobs(3) + " " + desk.count(1));
        Check.due("and then none", 0, desk.jobs(3));
    }

    private static void promise14_moreThanWait() {
        PromiseDesk desk = withJobs(3);
        Check.due("4 of 3", "3 0", desk.jobs(4) + " " + desk.count(1));
        PromiseDesk other = withJobs(3);
        Check.due("the greatest int", "3 0", other.jobs(Integer.MAX_VALUE) + " " + other.count(1));
    }

    private static void promise14_jobsMadeMeanwhileCountToo() {
        PromiseDesk desk = new PromiseDesk();
        int d = desk.then(desk.wrap(1), -1, -1, false);
        int e = desk.then(d, -1, -1, false);
        Check.due("one waits", 1, desk.count(1));
        Check.due("two are done", 2, desk.jobs(2));
        Check.due("the second, too", 1, desk.state(e));
        PromiseDesk other = new PromiseDesk();
        other.then(other.then(other.wrap(1), -1, -1, false), -1, -1, false);
        Check.due("one is done", "1 1", other.jobs(1) + " " + other.count(1));
    }

    private static void promise14_the4000thPairIsNoted() {
        PromiseDesk desk = Desks.withNotingJobs(50);
        Check.due("3999", 3999, desk.jobs(3999));
        Check.due("one more", "1 4000", desk.jobs(1) + " " + desk.count(2));
        Check.due("the last promise", "1 5", Check.promise(desk, -131));
    }

    private static void promise14_aFullLogStopsBeforeTheNextJob() {
        PromiseDesk desk = Desks.withNotingJobs(51);
        Check.due("throws", "IllegalStateException", Check.thrownBy(() -> desk.jobs(4001)));
        Check.due("those before it are done", "131 51 4000 0 0", Check.counts(desk));
        Check.refusedState("it stays so", desk, () -> desk.jobs(1), () -> desk.jobs(Integer.MAX_VALUE));
    }

    private static void promise14_aFullLogIsNoMatterIfTheCallEndsThere() {
        PromiseDesk desk = Desks.withNotingJobs(51);
        Check.due("4000 of 4080", 4000, desk.jobs(4000));
        Check.due("they wait", "51 4000", desk.count(1) + " " + desk.count(2));
    }

    private static void promise14_aFullLogStopsJobsThatNoteNothing() {
        PromiseDesk desk = Desks.withNotingJobs(50);
        desk.jobs(3950);
        int d = desk.then(desk.wrap(1), -1, -1, false);
        Check.due("the log gets full before it", "50 4000 1", desk.jobs(50) + " " + desk.count(2) + " " + desk.count(1));
        Check.refusedState("it notes nothing", desk, () -> desk.jobs(1));
        Check.due("and is not done", "0 -1", Check.promise(desk, d));
    }

    private static void promise14_aFullLogWithNoJobThrowsNothing() {
        PromiseDesk desk = Desks.withNotingJobs(50);
        Check.due("all are done", "4000 0 4000", desk.jobs(5000) + " " + desk.count(1) + " " + desk.count(2));
        Check.due("none waits", 0, desk.jobs(1));
    }

    private static void promise14_aFullLogWithNoneAskedForThrowsNothing() {
        PromiseDesk desk = Desks.withNotingJobs(51);
        desk.jobs(4000);
        Check.due("0", 0, desk.jobs(0));
        Check.due("-1", 0, desk.jobs(-1));
    }

    private static void promise14_aFullLogIsNothingToOtherCalls() {
        PromiseDesk desk = Desks.withNotingJobs(51);
        desk.jobs(4000);
        int p = desk.promise();
        Check.due("settle", true, desk.settle(p, false, 1));
        Check.due("then", p - 1, desk.then(p, -1, -1, false));
        Check.due("lastly", p - 2, desk.lastly(p, -1));
        Check.due("wrap", p - 3, desk.wrap(-2));
        Check.due("broken", p - 4, desk.broken(1));
        Check.due("combine", p - 5, desk.combine(3));
        Check.due("async", p - 6, desk.async(1, -1));
        Check.due("later", -1, desk.later(-2, false, 1));
        Check.due("thenable", p - 7, desk.thenable(0, 0, 0, 0, 0));
    }

    /** A desk with that many OBJECTS and two JOBS: the first makes no OBJECT, the second makes two. */
    private static PromiseDesk fullWithJobs(int objects) {
        PromiseDesk desk = Desks.withObjects(objects - 3);
        int h = desk.handler(0, 1);
        int p = desk.wrap(1);
        desk.then(p, -1, -1, false);
        desk.lastly(p, h);
        return desk;
    }

    private static void promise14_roomFor8() {
        PromiseDesk desk = fullWithJobs(Desks.ROOM_FOR_8);
        Check.due("room for 8 and two jobs", "2992 2 0 0 1", Check.counts(desk));
        Check.due("both are done", 2, desk.jobs(2));
        Check.due("the last made two", "2994 2 1 0 1", Check.counts(desk));
    }

    private static void promise14_roomFor7IsTooLittleForAnyJob() {
        PromiseDesk desk = fullWithJobs(Desks.ROOM_FOR_8);
        desk.promise();
        Check.refusedState("even for one that makes no object", desk, () -> desk.jobs(1), () -> desk.jobs(2));
    }

    private static void promise14_roomRunsOutBetweenJobs() {
        PromiseDesk desk = fullWithJobs(Desks.ROOM_FOR_8);
        Check.due("throws", "IllegalStateException", Check.thrownBy(() -> desk.jobs(3)));
        Check.due("those before it are done", "2994 2 1 0 1", Check.counts(desk));
    }

    private static void promise14_noRoomWithNoneAskedForThrowsNothing() {
        PromiseDesk desk = fullWithJobs(Desks.ROOM_FOR_8);
        desk.promise();
        Check.due("0", 0, desk.jobs(0));
        Check.due("-1", 0, desk.jobs(-1));
    }

    private static void promise14_noRoomWithNoJobThrowsNothing() {
        PromiseDesk desk = Desks.withObjects(Desks.ROOM_FOR_7);
        Check.due("1", 0, desk.jobs(1));
    }

    private static void promise14_noJobIsDoneByOtherCalls() {
        PromiseDesk desk = withJobs(2);
        int h = desk.handler(1, 0);
        desk.settle(desk.promise(), false, 1);
        desk.then(-2, h, -1, false);
        desk.lastly(-2, h);
        desk.wrap(desk.thenable(0, 1, 1, 0, 0));
        desk.item(1);
        desk.combine(0);
        desk.item(1);
        desk.async(1, h);
        Check.due("all wait, nothing is noted", "7 0", desk.count(1) + " " + desk.count(2));
    }
}
