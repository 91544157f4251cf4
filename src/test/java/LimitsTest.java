/**
 * WHAT IS THROWN when OBJECTS or HANDLERS run out. Most of these limits lie behind the 512 calls for which the
 * document promises answers; the code keeps to them there all the same, since that is what bounds its memory.
 */
public final class LimitsTest {
    public static void main(String[] args) {
        handlers();
        objects();
        combineNeedsMore();
        jobsStop();
        Check.end();
    }

    private static void handlers() {
        PromiseDesk desk = new PromiseDesk();
        for (int h = 0; h < 1000; h++) {
            Check.due("3: a handler", h, desk.handler(1, 0));
        }
        Check.state("3: one more", () -> desk.handler(1, 0));
        Check.argument("3: a wrong one before that", () -> desk.handler(6, 0));
        Check.argument("3: a wrong value before that", () -> desk.handler(4, 0));
        Check.due("3: 1000", 1000, desk.count(4));
        Check.due("3: the last one", -3, desk.then(desk.promise(), 999, -1, false));
    }

    private static PromiseDesk with(int objects) {
        PromiseDesk desk = new PromiseDesk();
        for (int k = 0; k < objects; k++) {
            desk.promise();
        }
        return desk;
    }

    private static void objects() {
        PromiseDesk desk = with(2991);
        int t = desk.thenable(0, 4, 0, 0, 0);
        Check.due("8 could still come", -2 - 2992, desk.promise());
        String before = Check.everything(desk);
        Check.state("2: promise", desk::promise);
        Check.state("4: thenable", () -> desk.thenable(0, 0, 0, 0, 0));
        Check.state("5: settle", () -> desk.settle(-2, false, 1) ? 1 : 0);
        Check.state("6: later, though it keeps none", () -> desk.later(t, false, 1));
        Check.state("7: then", () -> desk.then(-2, -1, -1, false));
        Check.state("8: lastly", () -> desk.lastly(-2, -1));
        Check.state("9: wrap, though it makes none", () -> desk.wrap(-2));
        Check.state("10: broken", () -> desk.broken(1));
        Check.state("12: combine", () -> desk.combine(0));
        Check.state("13: async", () -> desk.async(1, -1));
        Check.argument("4: a wrong one before that", () -> desk.thenable(3, 0, 0, 0, 0));
        Check.argument("5: so", () -> desk.settle(-2, false, 1000) ? 1 : 0);
        Check.argument("6: so", () -> desk.later(-2, false, 1));
        Check.argument("7: so", () -> desk.then(-2, 5, -1, false));
        Check.argument("8: so", () -> desk.lastly(-2, 5));
        Check.argument("9: so", () -> desk.wrap(1000));
        Check.argument("10: so", () -> desk.broken(1000));
        Check.argument("12: so", () -> desk.combine(4));
        Check.argument("13: so", () -> desk.async(1000, -1));
        Check.due("nothing is done", before, Check.everything(desk));
        Check.due("3: handler throws nothing else", 0, desk.handler(4, -2));
        Check.due("11: item neither", 1, desk.item(-2));
        Check.due("14: no job, nothing thrown", 0, desk.jobs(3));
    }

    private static void combineNeedsMore() {
        PromiseDesk desk = with(2987);
        for (int i = 0; i < 3; i++) {
            desk.item(i);
        }
        Check.state("12: 13 could come, 14 are asked for", () -> desk.combine(0));
        Check.due("12: the list stays", "2987 0 0 3 0", Check.counts(desk));
        PromiseDesk fits = with(2986);
        for (int i = 0; i < 3; i++) {
            fits.item(i);
        }
        Check.due("12: 14 are enough", -2 - 2986, fits.combine(0));
        Check.due("12: as many as 7 of them", 2993, fits.count(0));
    }

    private static void jobsStop() {
        PromiseDesk desk = with(2986);
        int h = desk.handler(0, 1);
        int p = desk.wrap(1);
        desk.lastly(p, h);
        desk.lastly(p, h);
        desk.lastly(p, h);
        Check.due("14: two have room", "2990 3 0 0 1", Check.counts(desk));
        Check.state("14: three have not", () -> desk.jobs(9));
        Check.due("14: those before it are done", "2994 5 2 0 1", Check.counts(desk));
        Check.due("14: no job asked for", 0, desk.jobs(0));
    }
}
