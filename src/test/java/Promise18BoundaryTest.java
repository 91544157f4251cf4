/** Boundary cases of promise 18, part. */
public final class Promise18BoundaryTest {
    private static final int[] NO_PARTS = {Desks.PROMISE, Desks.THENABLE, Desks.TYPE_ERROR};

    public static void main(String[] args) {
        Check.runAll(Promise18BoundaryTest.class);
    }

    private static void promise18_objectsWithoutParts() {
        PromiseDesk desk = Desks.ofEveryKind();
        for (int v : NO_PARTS) {
            Check.refusedArgument("object " + v, desk, () -> desk.part(v, -1), () -> desk.part(v, 0), () -> desk.part(v, 1));
        }
    }

    private static void promise18_undefinedAndNumbersAreNoObjects() {
        PromiseDesk desk = Desks.ofEveryKind();
        for (int v : new int[] {-1, 0, 1, 999}) {
            Check.refusedArgument("value " + v, desk, () -> desk.part(v, -1), () -> desk.part(v, 0));
        }
    }

    private static void promise18_noValue() {
        PromiseDesk desk = Desks.ofEveryKind();
        for (int v : Desks.noValues(desk)) {
            Check.refusedArgument("value " + v, desk, () -> desk.part(v, -1), () -> desk.part(v, 0));
        }
    }

    private static void promise18_emptyArrayAndErrorOfNone() {
        PromiseDesk desk = Desks.ofEveryKind();
        for (int v : new int[] {Desks.ARRAY, Desks.AGGREGATE_ERROR, Desks.ERRORS}) {
            Check.due("how many", 0, desk.part(v, -1));
            Check.refusedArgument("object " + v, desk, () -> desk.part(v, 0), () -> desk.part(v, 1), () -> desk.part(v, -2),
                    () -> desk.part(v, Integer.MAX_VALUE), () -> desk.part(v, Integer.MIN_VALUE));
        }
    }

    private static void promise18_anArraysFirstAndLast() {
        PromiseDesk desk = Desks.withItems(3);
        int p = desk.combine(0);
        desk.jobs(9);
        int array = desk.result(p);
        Check.due("how many, first, last", "3 0 2", desk.part(array, -1) + " " + desk.part(array, 0) + " " + desk.part(array, 2));
        refusedBeside(desk, array, 3);
    }

    private static void promise18_anErrorsFirstAndLast() {
        PromiseDesk desk = new PromiseDesk();
        desk.item(desk.broken(7));
        desk.item(desk.broken(8));
        int p = desk.combine(2);
        desk.jobs(9);
        int error = desk.result(p);
        int array = error - 1;
        Check.due("the error's", "3 2 7 8", desk.kind(error) + " " + desk.part(error, -1) + " " + desk.part(error, 0) + " "
                + desk.part(error, 1));
        Check.due("its array's", "4 2 7 8", desk.kind(array) + " " + desk.part(array, -1) + " " + desk.part(array, 0) + " "
                + desk.part(array, 1));
        refusedBeside(desk, error, 2);
        refusedBeside(desk, array, 2);
    }

    private static void promise18_anObjectOfAllSettledHas2() {
        PromiseDesk desk = new PromiseDesk();
        desk.item(desk.wrap(-1));
        desk.item(desk.broken(999));
        int p = desk.combine(1);
        desk.jobs(9);
        int fulfilled = desk.part(desk.result(p), 0);
        int rejected = desk.part(desk.result(p), 1);
        Check.due("a fulfilled one's", "2 1 -1", desk.part(fulfilled, -1) + " " + desk.part(fulfilled, 0) + " "
                + desk.part(fulfilled, 1));
        Check.due("a rejected one's", "2 0 999", desk.part(rejected, -1) + " " + desk.part(rejected, 0) + " "
                + desk.part(rejected, 1));
        refusedBeside(desk, fulfilled, 2);
        refusedBeside(desk, rejected, 2);
    }

    private static void refusedBeside(PromiseDesk desk, int v, int parts) {
        Check.refusedArgument("object " + v, desk, () -> desk.part(v, -2), () -> desk.part(v, parts),
                () -> desk.part(v, parts + 1), () -> desk.part(v, Integer.MAX_VALUE), () -> desk.part(v, Integer.MIN_VALUE));
    }
}
