/** Boundary cases of promise 11, item. */
public final class Promise11BoundaryTest {
    public static void main(String[] args) {
        Check.runAll(Promise11BoundaryTest.class);
    }

    private static void promise11_noValue() {
        PromiseDesk desk = Desks.ofEveryKind();
        for (int v : Desks.noValues(desk)) {
            Check.refusedArgument("value " + v, desk, () -> desk.item(v));
        }
        Check.due("none came to the list", 1, desk.item(1));
    }

    private static void promise11_leastAndGreatestValue() {
        PromiseDesk desk = Desks.ofEveryKind();
        int last = -1 - desk.count(0);
        int[] values = {-1, 0, 999, -2, last};
        for (int i = 0; i < values.length; i++) {
            Check.due("value " + values[i], i + 1, desk.item(values[i]));
        }
    }

    private static void promise11_the200thComes() {
        PromiseDesk desk = Desks.withItems(199);
        Check.due("how many", 200, desk.item(7));
        Check.due("as count tells", 200, desk.count(3));
    }

    private static void promise11_the201stIsRefused() {
        PromiseDesk desk = Desks.withItems(200);
        Check.refusedState("item", desk, () -> desk.item(7), () -> desk.item(-1));
        int p = desk.combine(0);
        desk.jobs(200);
        int array = desk.result(p);
        Check.due("the list is as it was", "200 0 199",
                desk.part(array, -1) + " " + desk.part(array, 0) + " " + desk.part(array, 199));
    }

    private static void promise11_wrongArgumentsComeBeforeAFullList() {
        PromiseDesk desk = Desks.withItems(200);
        Check.refusedArgument("item", desk, () -> desk.item(1000), () -> desk.item(-2), () -> desk.item(Integer.MIN_VALUE));
    }

    private static void promise11_fromOneAgainBehindCombine() {
        PromiseDesk desk = Desks.withItems(200);
        desk.combine(3);
        Check.due("empty", 0, desk.count(3));
        for (int i = 1; i <= 200; i++) {
            Check.due("how many", i, desk.item(0));
        }
        Check.state("one more", () -> desk.item(0));
    }

    private static void promise11_fromOneAgainBehindAsync() {
        PromiseDesk desk = Desks.withItems(200);
        desk.async(0, -1);
        Check.due("empty", 0, desk.count(3));
        for (int i = 1; i <= 200; i++) {
            Check.due("how many", i, desk.item(0));
        }
        Check.state("one more", () -> desk.item(0));
    }

    private static void promise11_noRoomForObjectsIsNothingToIt() {
        PromiseDesk desk = Desks.withObjects(Desks.ROOM_FOR_7);
        for (int i = 1; i <= 200; i++) {
            Check.due("how many", i, desk.item(-2));
        }
        Check.refusedState("the 201st", desk, () -> desk.item(-2));
    }

    private static void promise11_aFullLogIsNothingToIt() {
        PromiseDesk desk = Desks.withNotingJobs(50);
        desk.jobs(4000);
        Check.due("pairs", 4000, desk.count(2));
        Check.due("how many", 1, desk.item(1));
    }
}
