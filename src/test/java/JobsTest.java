/** Promise 14: jobs, and what stops it. */
public final class JobsTest {
    public static void main(String[] args) {
        upToN();
        firstInFirstOut();
        fullLog();
        fullLogBeforeAnyJob();
        Check.end();
    }

    private static void upToN() {
        PromiseDesk desk = new PromiseDesk();
        int p = desk.wrap(1);
        for (int i = 0; i < 5; i++) {
            desk.then(p, -1, -1, false);
        }
        Check.due("14: none", 0, desk.jobs(0));
        Check.due("14: fewer than none", 0, desk.jobs(-1));
        Check.due("14: the least int", 0, desk.jobs(Integer.MIN_VALUE));
        Check.due("14: all wait", 5, desk.count(1));
        Check.due("14: two", 2, desk.jobs(2));
        Check.due("14: done and not done", "1 0 3", desk.state(-4) + " " + desk.state(-5) + " " + desk.count(1));
        Check.due("14: the rest", 3, desk.jobs(Integer.MAX_VALUE));
        Check.due("14: no more", 0, desk.jobs(1));
    }

    private static void firstInFirstOut() {
        PromiseDesk desk = new PromiseDesk();
        for (int h = 0; h < 4; h++) {
            desk.handler(1, 0);
        }
        int p = desk.wrap(1);
        int d = desk.then(p, 0, -1, false);
        desk.then(d, 2, -1, false);
        desk.then(p, 1, -1, false);
        int t = desk.thenable(0, 1, 7, 0, 0);
        int w = desk.wrap(t);
        desk.then(w, 3, -1, false);
        Check.due("14: jobs that jobs make count", 5, desk.jobs(9));
        Check.due("14: behind those before them", "0:1 1:1 " + t + ":-1 2:1 3:7", Check.log(desk));
    }

    /** A chain of 80 thenables, each of which gives the one before it, and 51 promises that follow it. */
    private static PromiseDesk longChain() {
        PromiseDesk desk = new PromiseDesk();
        int t = desk.thenable(0, 1, 5, 0, 0);
        for (int i = 1; i < 80; i++) {
            t = desk.thenable(0, 1, t, 0, 0);
        }
        for (int i = 0; i < 51; i++) {
            desk.wrap(t);
        }
        return desk;
    }

    private static void fullLog() {
        PromiseDesk desk = longChain();
        Check.state("14: the log gets full", () -> desk.jobs(100000));
        Check.due("14: those before it are done", "131 51 4000 0 0", Check.counts(desk));
        Check.due("14: the last pair", "-3 -1", desk.log(3999, false) + " " + desk.log(3999, true));
        Check.due("14: none behind it", -1000000, desk.log(4000, false));
        Check.state("14: it stays so", () -> desk.jobs(1));
        Check.due("14: no job asked for", 0, desk.jobs(0));
        Check.due("14: unchanged", "131 51 4000 0 0", Check.counts(desk));
        Check.due("14: other calls go on", true, desk.settle(desk.promise(), false, 1));
        PromiseDesk just = longChain();
        Check.due("14: 4000 and no more", 4000, just.jobs(4000));
        Check.state("14: one more", () -> just.jobs(1));
    }

    private static void fullLogBeforeAnyJob() {
        PromiseDesk desk = longChain();
        Check.due("14: 3999", 3999, desk.jobs(3999));
        Check.due("14: there is room for one", 1, desk.jobs(1));
        PromiseDesk quiet = longChain();
        quiet.jobs(3949);
        int d = quiet.then(quiet.wrap(1), -1, -1, false);
        Check.due("14: the 51 before it fill the log", 51, quiet.jobs(51));
        Check.state("14: even a job that notes nothing", () -> quiet.jobs(1));
        Check.due("14: it has not been done", "0 52", quiet.state(d) + " " + quiet.count(1));
        PromiseDesk idle = new PromiseDesk();
        Check.due("14: none waits, nothing thrown", 0, idle.jobs(5));
    }
}
