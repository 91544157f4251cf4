/** Boundary cases of promise 17, kind. */
public final class Promise17BoundaryTest {
    public static void main(String[] args) {
        Check.runAll(Promise17BoundaryTest.class);
    }

    private static void promise17_undefinedAndNumbersAreNoObjects() {
        PromiseDesk desk = Desks.ofEveryKind();
        for (int v : new int[] {-1, 0, 1, 500, 999}) {
            Check.refusedArgument("value " + v, desk, () -> desk.kind(v));
        }
    }

    private static void promise17_noValue() {
        PromiseDesk desk = Desks.ofEveryKind();
        for (int v : Desks.noValues(desk)) {
            Check.refusedArgument("value " + v, desk, () -> desk.kind(v));
        }
    }

    private static void promise17_fromTheFirstObjectToTheLast() {
        PromiseDesk desk = Desks.ofEveryKind();
        int[] due = {0, 1, 2, 0, 3, 4, 0, 4, 0, 0, 0, 5, 4};
        Check.due("how many", due.length, desk.count(0));
        for (int k = 0; k < due.length; k++) {
            Check.due("object " + k, due[k], desk.kind(-2 - k));
        }
    }

    private static void promise17_thenablesOfEveryWhat() {
        PromiseDesk desk = new PromiseDesk();
        for (int what = 0; what <= 2; what++) {
            Check.due("what " + what, 1, desk.kind(desk.thenable(what, 0, 0, 0, 0)));
        }
    }

    private static void promise17_anObjectOnceItHasCome() {
        PromiseDesk desk = new PromiseDesk();
        int p = desk.promise();
        Check.argument("before", () -> desk.kind(-3));
        desk.settle(p, false, p);
        Check.due("behind", 2, desk.kind(-3));
    }
}
