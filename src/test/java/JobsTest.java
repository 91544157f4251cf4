/** Promise 14: jobs. */
public final class JobsTest {
    public static void main(String[] args) {
        upToN();
        firstInFirstOut();
        Check.end();
    }

    private static void upToN() {
        PromiseDesk desk = new PromiseDesk();
        int p = desk.wrap(1);
        for (int i = 0; i < 5; i++) {
            desk.then(p, -1, -1, false);
        }
        Check.due("14: none", 0, desk.jobs(0));
        Check.due("14: fewer than none", 0, desk.jobs(-1));
        Check.due("14: the least int", 0, desk.jobs(Integer.MIN_VALUE));
        Check.due("14: all wait", 5, desk.count(1));
        Check.due("14: two", 2, desk.jobs(2));
        Check.due("14: done and not done", "1 0 3", desk.state(-4) + " " + desk.state(-5) + " " + desk.count(1));
        Check.due("14: the rest", 3, desk.jobs(Integer.MAX_VALUE));
        Check.due("14: no more", 0, desk.jobs(1));
    }

    private static void firstInFirstOut() {
        PromiseDesk desk = new PromiseDesk();
        for (int h = 0; h < 4; h++) {
            desk.handler(1, 0);
        }
        int p = desk.wrap(1);
        int d = desk.then(p, 0, -1, false);
        desk.then(d, 2, -1, false);
        desk.then(p, 1, -1, false);
        int t = desk.thenable(0, 1, 7, 0, 0);
        int w = desk.wrap(t);
        desk.then(w, 3, -1, false);
        Check.due("14: jobs that jobs make count", 5, desk.jobs(9));
        Check.due("14: behind those before them", "0:1 1:1 " + t + ":-1 2:1 3:7", Check.log(desk));
    }
}
