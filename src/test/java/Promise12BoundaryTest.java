/** Boundary cases of promise 12, combine. */
public final class Promise12BoundaryTest {
    private static final int ALL = 0;
    private static final int ALL_SETTLED = 1;
    private static final int ANY = 2;
    private static final int RACE = 3;

    public static void main(String[] args) {
        Check.runAll(Promise12BoundaryTest.class);
    }

    private static void promise12_sortTooSmall() {
        PromiseDesk desk = Desks.withItems(2);
        Check.refusedArgument("combine", desk, () -> desk.combine(-1), () -> desk.combine(Integer.MIN_VALUE));
        Check.due("the list stays", 3, desk.item(0));
    }

    private static void promise12_sortTooLarge() {
        PromiseDesk desk = Desks.withItems(2);
        Check.refusedArgument("combine", desk, () -> desk.combine(4), () -> desk.combine(Integer.MAX_VALUE));
        Check.due("the list stays", 3, desk.item(7));
        int p = desk.combine(ALL);
        desk.jobs(9);
        Check.due("with what it had", "4: 0 1 7", Check.parts(desk, desk.result(p)));
    }

    private static void promise12_allOfNothing() {
        PromiseDesk desk = new PromiseDesk();
        int p = desk.combine(ALL);
        Check.due("fulfilled at once with an empty array", "1 -3 4:", Check.promise(desk, p) + " " + Check.parts(desk, -3));
        Check.due("no job", "2 0 0 0 0", Check.counts(desk));
    }

    private static void promise12_allSettledOfNothing() {
        PromiseDesk desk = new PromiseDesk();
        int p = desk.combine(ALL_SETTLED);
        Check.due("fulfilled at once with an empty array", "1 -3 4:", Check.promise(desk, p) + " " + Check.parts(desk, -3));
        Check.due("no job", "2 0 0 0 0", Check.counts(desk));
    }

    private static void promise12_anyOfNothing() {
        PromiseDesk desk = new PromiseDesk();
        int p = desk.combine(ANY);
        Check.due("rejected at once with an error of none", "2 -3 3:", Check.promise(desk, p) + " " + Check.parts(desk, -3));
        Check.due("the empty array behind it", "4:", Check.parts(desk, -4));
        Check.due("no job", "3 0 0 0 0", Check.counts(desk));
    }

    private static void promise12_raceOfNothing() {
        PromiseDesk desk = new PromiseDesk();
        int p = desk.combine(RACE);
        Check.due("no job", "1 0 0 0 0", Check.counts(desk));
        desk.jobs(9);
        Check.due("for ever pending", "0 -1", Check.promise(desk, p));
    }

    private static void promise12_allOfOne() {
        PromiseDesk desk = Desks.withItems(1);
        int p = desk.combine(ALL);
        Check.due("pending before the job", "0 -1 3", Check.promise(desk, p) + " " + desk.count(0));
        Check.due("one job", 1, desk.jobs(9));
        Check.due("an array of one", "1 -5 4: 0", Check.promise(desk, p) + " " + Check.parts(desk, -5));
    }

    private static void promise12_allSettledOfOne() {
        PromiseDesk desk = new PromiseDesk();
        desk.item(desk.broken(8));
        int p = desk.combine(ALL_SETTLED);
        Check.due("one job", 1, desk.jobs(9));
        Check.due("an object, then the array", "1 -6 4: -5 5: 0 8",
                Check.promise(desk, p) + " " + Check.parts(desk, -6) + " " + Check.parts(desk, -5));
    }

    private static void promise12_anyOfOne() {
        PromiseDesk desk = new PromiseDesk();
        desk.item(desk.broken(8));
        int p = desk.combine(ANY);
        Check.due("one job", 1, desk.jobs(9));
        Check.due("an error, then its array", "2 -5 3: 8 4: 8",
                Check.promise(desk, p) + " " + Check.parts(desk, -5) + " " + Check.parts(desk, -6));
    }

    private static void promise12_raceOfOne() {
        PromiseDesk desk = Desks.withItems(1);
        int p = desk.combine(RACE);
        Check.due("one job", 1, desk.jobs(9));
        Check.due("its value", "1 0 3", Check.promise(desk, p) + " " + desk.count(0));
    }

    private static void promise12_allOf200() {
        PromiseDesk desk = Desks.withItems(200);
        int p = desk.combine(ALL);
        Check.due("two promises each", "401 200 0 0 0", Check.counts(desk));
        Check.due("before the last", "199 0 -1", desk.jobs(199) + " " + Check.promise(desk, p));
        desk.jobs(1);
        Check.due("behind it", "1 -403 200", Check.promise(desk, p) + " " + desk.part(-403, -1));
        Check.due("from the first to the last", "0 199", desk.part(-403, 0) + " " + desk.part(-403, 199));
        Check.argument("no 201st", () -> desk.part(-403, 200));
    }

    private static void promise12_allSettledOf200() {
        PromiseDesk desk = Desks.withItems(200);
        int p = desk.combine(ALL_SETTLED);
        Check.due("a job each", 200, desk.jobs(1000));
        Check.due("an object each and the array", "602 1 -603", desk.count(0) + " " + Check.promise(desk, p));
        Check.due("the first and the last object", "-403 -602", desk.part(-603, 0) + " " + desk.part(-603, 199));
        Check.due("the last one's value", "1 199", desk.part(-602, 0) + " " + desk.part(-602, 1));
    }

    private static void promise12_anyOf200() {
        PromiseDesk desk = new PromiseDesk();
        int broken = desk.broken(8);
        for (int i = 0; i < 200; i++) {
            desk.item(broken);
        }
        int p = desk.combine(ANY);
        Check.due("a promise each", "202 200 0 0 0", Check.counts(desk));
        Check.due("before the last", "199 0 -1", desk.jobs(199) + " " + Check.promise(desk, p));
        desk.jobs(1);
        Check.due("behind it", "2 -204 3 4", Check.promise(desk, p) + " " + desk.kind(-204) + " " + desk.kind(-205));
        Check.due("its errors", "200 8 8", desk.part(-204, -1) + " " + desk.part(-204, 0) + " " + desk.part(-205, 199));
    }

    private static void promise12_raceOf200() {
        PromiseDesk desk = Desks.withItems(200);
        int p = desk.combine(RACE);
        desk.jobs(1);
        Check.due("the first ends it", "1 0", Check.promise(desk, p));
        desk.jobs(199);
        Check.due("the last changes nothing", "1 0 401 0", Check.promise(desk, p) + " " + desk.count(0) + " " + desk.count(1));
    }

    private static void promise12_theListIsEmptyBehindEverySort() {
        for (int sort = ALL; sort <= RACE; sort++) {
            PromiseDesk desk = Desks.withItems(3);
            desk.combine(sort);
            Check.due("sort " + sort, 0, desk.count(3));
            int objects = desk.count(0);
            desk.combine(RACE);
            Check.due("the next is of nothing", objects + 1, desk.count(0));
        }
    }

    private static void promise12_undefinedInAllAndAny() {
        PromiseDesk desk = new PromiseDesk();
        desk.item(-1);
        int all = desk.combine(ALL);
        desk.item(desk.broken(-1));
        int any = desk.combine(ANY);
        desk.jobs(9);
        Check.due("all", "4: -1", Check.parts(desk, desk.result(all)));
        Check.due("any", "3: -1", Check.parts(desk, desk.result(any)));
    }

    private static void promise12_nothingMoreBehindTheEnd() {
        PromiseDesk desk = new PromiseDesk();
        int p = desk.promise();
        int q = desk.promise();
        desk.item(p);
        desk.item(q);
        int all = desk.combine(ALL);
        desk.settle(p, true, 7);
        desk.jobs(9);
        int objects = desk.count(0);
        desk.settle(q, false, 8);
        Check.due("its job is done all the same", 1, desk.jobs(9));
        Check.due("to no effect", "2 7 " + objects, Check.promise(desk, all) + " " + desk.count(0));
    }

    private static void promise12_roomFor8IfTheListIsEmpty() {
        for (int sort = ALL; sort <= RACE; sort++) {
            PromiseDesk desk = Desks.withObjects(Desks.ROOM_FOR_8);
            Check.due("sort " + sort, -2 - Desks.ROOM_FOR_8, desk.combine(sort));
        }
    }

    private static void promise12_roomFor7IsTooLittleIfTheListIsEmpty() {
        PromiseDesk desk = Desks.withObjects(Desks.ROOM_FOR_7);
        Check.refusedState("combine", desk, () -> desk.combine(ALL), () -> desk.combine(ALL_SETTLED),
                () -> desk.combine(ANY), () -> desk.combine(RACE));
    }

    private static void promise12_roomFor8And2ForEachOfTheList() {
        for (int items : new int[] {1, 3, 200}) {
            int fits = 3000 - 8 - 2 * items;
            PromiseDesk desk = Desks.withObjects(fits);
            Desks.addItems(desk, items);
            Check.due(items + " items", -2 - fits, desk.combine(ALL));
            Check.due("two promises each", fits + 1 + 2 * items, desk.count(0));
        }
    }

    private static void promise12_room1ShortOf8And2ForEachIsTooLittle() {
        for (int items : new int[] {1, 3, 200}) {
            PromiseDesk desk = Desks.withObjects(3000 - 8 - 2 * items + 1);
            Desks.addItems(desk, items);
            Check.refusedState(items + " items", desk, () -> desk.combine(ALL), () -> desk.combine(RACE));
            Check.due("the list stays", items, desk.count(3));
        }
    }

    private static void promise12_wrongArgumentsComeBeforeNoRoom() {
        PromiseDesk desk = Desks.withObjects(Desks.ROOM_FOR_7);
        desk.item(1);
        Check.refusedArgument("combine", desk, () -> desk.combine(-1), () -> desk.combine(4));
    }
}
