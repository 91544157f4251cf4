/** Promises 11 and 12: item and combine. */
public final class CombiningTest {
    private static final int ALL = 0;
    private static final int ALL_SETTLED = 1;
    private static final int ANY = 2;
    private static final int RACE = 3;

    public static void main(String[] args) {
        item();
        itemsFull();
        combineWrong();
        combineNothing();
        all();
        allFails();
        allSettled();
        any();
        anyFails();
        race();
        objectsInOrder();
        thenables();
        sameItemTwice();
        Check.end();
    }

    private static int[] waiting(PromiseDesk desk, int n) {
        int[] made = new int[n];
        for (int i = 0; i < n; i++) {
            made[i] = desk.promise();
            desk.item(made[i]);
        }
        return made;
    }

    private static void item() {
        PromiseDesk desk = new PromiseDesk();
        Check.due("11: the first", 1, desk.item(-1));
        Check.due("11: the second", 2, desk.item(999));
        Check.due("11: an object", 3, desk.item(desk.promise()));
        Check.argument("11: 1000", () -> desk.item(1000));
        Check.argument("11: no object", () -> desk.item(-3));
        Check.due("11: three", "1 0 0 3 0", Check.counts(desk));
        desk.combine(RACE);
        Check.due("11: empty behind combine", 0, desk.count(3));
        Check.due("11: from one again", 1, desk.item(4));
        desk.async(1, -1);
        Check.due("11: empty behind async", 0, desk.count(3));
    }

    private static void itemsFull() {
        PromiseDesk desk = new PromiseDesk();
        for (int i = 1; i <= 200; i++) {
            Check.due("11: up to 200", i, desk.item(i));
        }
        Check.state("11: no more", () -> desk.item(1));
        Check.argument("11: a wrong value before that", () -> desk.item(1000));
        Check.due("11: 200 still", 200, desk.count(3));
        int p = desk.combine(ALL);
        desk.jobs(400);
        Check.due("12: all of 200", "1 4 200 1 200", desk.state(p) + " " + desk.kind(desk.result(p)) + " "
                + desk.part(desk.result(p), -1) + " " + desk.part(desk.result(p), 0) + " " + desk.part(desk.result(p), 199));
        Check.due("12: objects", 402, desk.count(0));
        Check.due("11: room again", 1, desk.item(1));
    }

    private static void combineWrong() {
        PromiseDesk desk = new PromiseDesk();
        desk.item(3);
        Check.argument("12: sort -1", () -> desk.combine(-1));
        Check.argument("12: sort 4", () -> desk.combine(4));
        Check.due("12: the list stays", "0 0 0 1 0", Check.counts(desk));
    }

    private static void combineNothing() {
        PromiseDesk desk = new PromiseDesk();
        Check.due("12: all", "1 -3 4:", Check.promise(desk, desk.combine(ALL)) + " " + Check.parts(desk, -3));
        Check.due("12: allSettled", "1 -5 4:", Check.promise(desk, desk.combine(ALL_SETTLED)) + " " + Check.parts(desk, -5));
        Check.due("12: any", "2 -7 3: 4:", Check.promise(desk, desk.combine(ANY)) + " " + Check.parts(desk, -7) + " "
                + Check.parts(desk, -8));
        Check.due("12: race", "0 -1", Check.promise(desk, desk.combine(RACE)));
        Check.due("12: no job", "8 0 0 0 0", Check.counts(desk));
    }

    private static void all() {
        PromiseDesk desk = new PromiseDesk();
        int[] p = waiting(desk, 3);
        int c = desk.combine(ALL);
        Check.due("12: p's are handled", 4, desk.state(p[0]));
        desk.settle(p[2], false, 30);
        desk.settle(p[0], false, 10);
        desk.jobs(9);
        Check.due("12: waits for the last", "0 -1 7", Check.promise(desk, c) + " " + desk.count(0));
        desk.settle(p[1], false, 20);
        Check.due("12: one job", 1, desk.jobs(9));
        Check.due("12: in the list's order", "1 -9 4: 10 20 30", Check.promise(desk, c) + " " + Check.parts(desk, -9));
    }

    private static void allFails() {
        PromiseDesk desk = new PromiseDesk();
        int[] p = waiting(desk, 2);
        int c = desk.combine(ALL);
        desk.settle(p[1], true, 7);
        desk.settle(p[0], true, 8);
        desk.jobs(1);
        Check.due("12: the first reason", "2 7", Check.promise(desk, c));
        desk.jobs(1);
        Check.due("12: stays", "2 7 5", Check.promise(desk, c) + " " + desk.count(0));
        int[] q = waiting(desk, 2);
        int d = desk.combine(ALL);
        desk.settle(q[0], false, 1);
        desk.settle(q[1], true, 2);
        desk.jobs(9);
        Check.due("12: no array for it", "2 2 10", Check.promise(desk, d) + " " + desk.count(0));
    }

    private static void allSettled() {
        PromiseDesk desk = new PromiseDesk();
        int[] p = waiting(desk, 3);
        int c = desk.combine(ALL_SETTLED);
        desk.settle(p[1], true, 5);
        desk.settle(p[2], false, -1);
        desk.jobs(9);
        Check.due("12: an object as each comes", "9 5: 0 5 5: 1 -1",
                desk.count(0) + " " + Check.parts(desk, -9) + " " + Check.parts(desk, -10));
        desk.settle(p[0], true, p[0]);
        desk.jobs(9);
        Check.due("12: the array behind the last", "1 -12 4: -11 -9 -10",
                Check.promise(desk, c) + " " + Check.parts(desk, -12));
        Check.due("12: the last object", "5: 0 -2", Check.parts(desk, -11));
    }

    private static void any() {
        PromiseDesk desk = new PromiseDesk();
        int[] p = waiting(desk, 3);
        int c = desk.combine(ANY);
        desk.settle(p[0], true, 5);
        desk.settle(p[2], false, 6);
        desk.settle(p[1], false, 7);
        desk.jobs(1);
        Check.due("12: a rejected one does not end it", "0 -1", Check.promise(desk, c));
        desk.jobs(9);
        Check.due("12: the first fulfilled", "1 6 7", Check.promise(desk, c) + " " + desk.count(0));
    }

    private static void anyFails() {
        PromiseDesk desk = new PromiseDesk();
        int[] p = waiting(desk, 3);
        int c = desk.combine(ANY);
        desk.settle(p[2], true, 30);
        desk.settle(p[0], true, 10);
        desk.settle(p[1], true, 20);
        desk.jobs(9);
        Check.due("12: an AggregateError, its array behind it", "2 -9 3: 10 20 30 4: 10 20 30",
                Check.promise(desk, c) + " " + Check.parts(desk, -9) + " " + Check.parts(desk, -10));
        Check.due("12: no more objects", 9, desk.count(0));
    }

    private static void race() {
        PromiseDesk desk = new PromiseDesk();
        int[] p = waiting(desk, 2);
        int c = desk.combine(RACE);
        desk.settle(p[1], true, 5);
        desk.settle(p[0], false, 6);
        desk.jobs(9);
        Check.due("12: the first settled", "2 5", Check.promise(desk, c));
        int[] q = waiting(desk, 2);
        int d = desk.combine(RACE);
        desk.settle(q[1], false, 7);
        desk.settle(q[0], true, 8);
        desk.jobs(9);
        Check.due("12: or fulfilled", "1 7", Check.promise(desk, d));
        Check.due("12: no array", 10, desk.count(0));
    }

    private static void objectsInOrder() {
        for (int sort = 0; sort < 4; sort++) {
            PromiseDesk desk = new PromiseDesk();
            desk.item(desk.promise());
            desk.item(6);
            desk.item(desk.broken(4));
            Check.due("12: its promise is made first, sort " + sort, -4, desk.combine(sort));
            Check.due("12: then's, resolve's and then's, then's", "7 2 0 0 0", Check.counts(desk));
            Check.due("12: resolve's promise", "5 6", Check.promise(desk, -6));
            Check.due("12: then's wait", "0 -1 0 -1 0 -1", Check.promise(desk, -5) + " " + Check.promise(desk, -7) + " "
                    + Check.promise(desk, -8));
            desk.jobs(9);
            Check.due("12: and give undefined", "1 -1 1 -1", Check.promise(desk, -7) + " " + Check.promise(desk, -8));
        }
    }

    private static void thenables() {
        PromiseDesk desk = new PromiseDesk();
        int rejects = desk.thenable(0, 2, 1, 0, 0);
        int throwing = desk.thenable(1, 0, 2, 0, 0);
        int plain = desk.thenable(2, 0, 3, 0, 0);
        desk.item(rejects);
        desk.item(throwing);
        desk.item(plain);
        int c = desk.combine(ALL_SETTLED);
        desk.jobs(99);
        int array = desk.result(c);
        Check.due("12: the first thenable", "5: 0 1", Check.parts(desk, desk.part(array, 0)));
        Check.due("12: the second", "5: 0 2", Check.parts(desk, desk.part(array, 1)));
        Check.due("12: the third", "5: 1 " + plain, Check.parts(desk, desk.part(array, 2)));
        Check.due("12: the one called is noted", rejects + ":-1", Check.log(desk));
    }

    private static void sameItemTwice() {
        PromiseDesk desk = new PromiseDesk();
        int p = desk.promise();
        desk.item(p);
        desk.item(p);
        int c = desk.combine(ALL);
        desk.settle(p, false, 4);
        Check.due("12: a job each", 2, desk.jobs(9));
        Check.due("12: both filled", "4: 4 4", Check.parts(desk, desk.result(c)));
    }
}
