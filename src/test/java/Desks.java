/** Desks in the states that the boundary cases begin with. */
final class Desks {
    /** As many OBJECTS as leave room for 8 more of the 3,000. */
    static final int ROOM_FOR_8 = 2992;
    /** As many as leave room for 7. */
    static final int ROOM_FOR_7 = 2993;

    /** The OBJECTS of ofEveryKind, by their VALUES. */
    static final int PROMISE = -2;
    static final int THENABLE = -3;
    static final int TYPE_ERROR = -4;
    static final int AGGREGATE_ERROR = -6;
    static final int ERRORS = -7;
    static final int ARRAY = -9;
    static final int SETTLED = -13;

    private Desks() {
    }

    /**
     * A desk with that many OBJECTS, all made by promise. The room for the last 8 lies behind the 512 calls for
     * which the document promises answers; the class keeps its limits there all the same.
     */
    static PromiseDesk withObjects(int objects) {
        PromiseDesk desk = new PromiseDesk();
        for (int k = 0; k < objects; k++) {
            desk.promise();
        }
        return desk;
    }

    static PromiseDesk withHandlers(int handlers) {
        PromiseDesk desk = new PromiseDesk();
        for (int h = 0; h < handlers; h++) {
            desk.handler(1, 0);
        }
        return desk;
    }

    /** A desk whose LIST has the Numbers from 0 on. */
    static PromiseDesk withItems(int items) {
        PromiseDesk desk = new PromiseDesk();
        addItems(desk, items);
        return desk;
    }

    static void addItems(PromiseDesk desk, int items) {
        for (int i = 0; i < items; i++) {
            desk.item(i);
        }
    }

    /**
     * A desk with JOBS that note a pair each: a chain of 80 thenables, each of which gives the one before it, and
     * promises that follow the chain. 50 promises fill THE LOG with the last JOB, by 130 calls.
     */
    static PromiseDesk withNotingJobs(int promises) {
        PromiseDesk desk = new PromiseDesk();
        int t = desk.thenable(0, 1, 5, 0, 0);
        for (int i = 1; i < 80; i++) {
            t = desk.thenable(0, 1, t, 0, 0);
        }
        for (int i = 0; i < promises; i++) {
            desk.wrap(t);
        }
        return desk;
    }

    /** A desk with one OBJECT at least of every kind, no HANDLER, no JOB and an empty LOG. */
    static PromiseDesk ofEveryKind() {
        PromiseDesk desk = new PromiseDesk();
        int p = desk.promise();
        desk.thenable(0, 4, 0, 0, 0);
        desk.settle(p, false, p);
        desk.combine(2);
        desk.combine(0);
        desk.item(6);
        desk.combine(1);
        desk.jobs(9);
        return desk;
    }

    /** Ints that are no VALUE of the desk. */
    static int[] noValues(PromiseDesk desk) {
        int next = -2 - desk.count(0);
        return new int[] {1000, 1001, Integer.MAX_VALUE, next, next - 1, -1000000, Integer.MIN_VALUE + 1, Integer.MIN_VALUE};
    }

    /** Ints that are no HANDLER of the desk and do not stand for undefined. */
    static int[] noHandlers(PromiseDesk desk) {
        int next = desk.count(4);
        return new int[] {-2, -3, Integer.MIN_VALUE, next, next + 1, 1000, Integer.MAX_VALUE};
    }
}
