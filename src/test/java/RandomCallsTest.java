import java.util.Random;

/**
 * Runs of 512 calls with arguments good and wild: nothing but the document's exceptions is thrown, a call that
 * throws changes nothing, and the same calls answer the same.
 */
public final class RandomCallsTest {
    private static final int RUNS = 80;
    private static final int CALLS = 512;
    private static final int THREW_ARGUMENT = -7000001;
    private static final int THREW_STATE = -7000002;

    public static void main(String[] args) {
        for (int seed = 0; seed < RUNS; seed++) {
            Check.due("run " + seed + " again", run(seed, true), run(seed, false));
        }
        Check.end();
    }

    private static String run(int seed, boolean looks) {
        Random random = new Random(seed);
        PromiseDesk desk = new PromiseDesk();
        StringBuilder answers = new StringBuilder();
        for (int i = 0; i < CALLS; i++) {
            int method = random.nextInt(28);
            int[] a = {pick(random, desk), pick(random, desk), pick(random, desk), pick(random, desk), pick(random, desk)};
            boolean flag = random.nextBoolean();
            String before = looks ? Check.everything(desk) : "";
            int answer = answer(desk, method, a, flag);
            answers.append(answer).append(' ');
            if (looks && threw(answer, method)) {
                Check.due("run " + seed + ", call " + i + " throws and does nothing", before, Check.everything(desk));
            }
        }
        return answers.append(Check.everything(desk)).toString();
    }

    private static boolean threw(int answer, int method) {
        return answer == THREW_ARGUMENT || answer == THREW_STATE && method != 12;
    }

    private static int pick(Random random, PromiseDesk desk) {
        int objects = desk.count(0);
        switch (random.nextInt(12)) {
            case 0:
                return random.nextInt();
            case 1:
                return random.nextInt(7) - 3;
            case 2:
                return 995 + random.nextInt(10);
            case 3:
                return -2 - objects + random.nextInt(4) - 1;
            case 4:
            case 5:
                return random.nextInt(6);
            case 6:
                return random.nextBoolean() ? Integer.MIN_VALUE + random.nextInt(4) : Integer.MAX_VALUE - random.nextInt(4);
            default:
                return objects == 0 ? -1 : -2 - random.nextInt(objects);
        }
    }

    private static int answer(PromiseDesk desk, int method, int[] a, boolean flag) {
        try {
            return call(desk, method, a, flag);
        } catch (IllegalArgumentException e) {
            if (method == 0 || method == 12 || method == 17) {
                Check.tell("method " + method + " may not throw " + e);
            }
            return THREW_ARGUMENT;
        } catch (IllegalStateException e) {
            if (method >= 13 && method <= 18) {
                Check.tell("method " + method + " may not throw " + e);
            }
            return THREW_STATE;
        } catch (RuntimeException e) {
            Check.tell("method " + method + " threw " + e);
            return 0;
        }
    }

    private static int call(PromiseDesk desk, int method, int[] a, boolean flag) {
        int small = Math.floorMod(a[0], 6);
        int handler = Math.floorMod(a[1], 8) - 1;
        switch (method) {
            case 0:
                return desk.promise();
            case 1:
                return desk.handler(a[0], a[1]);
            case 2:
                return desk.thenable(a[0], a[1], a[2], a[3], a[4]);
            case 3:
                return desk.settle(a[0], flag, a[1]) ? 1 : 0;
            case 4:
                return desk.later(a[0], flag, a[1]);
            case 5:
                return desk.then(a[0], a[1], a[2], flag);
            case 6:
                return desk.lastly(a[0], a[1]);
            case 7:
                return desk.wrap(a[0]);
            case 8:
                return desk.broken(a[0]);
            case 9:
                return desk.item(a[0]);
            case 10:
                return desk.combine(a[0]);
            case 11:
                return desk.async(a[0], a[1]);
            case 12:
                return desk.jobs(a[0]);
            case 13:
                return desk.state(a[0]);
            case 14:
                return desk.result(a[0]);
            case 15:
                return desk.kind(a[0]);
            case 16:
                return desk.part(a[0], a[1]);
            case 17:
                return desk.log(a[0], flag);
            case 18:
                return desk.count(a[0]);
            case 19:
                return desk.handler(small, a[1]);
            case 20:
                return desk.thenable(Math.floorMod(a[0], 3), Math.floorMod(a[1], 5), a[2], Math.floorMod(a[3], 5), a[4]);
            case 21:
            case 22:
                return desk.then(a[0], handler, handler, flag);
            case 23:
                return desk.lastly(a[0], handler);
            case 24:
                return desk.combine(small % 4);
            case 25:
                return desk.async(a[0], handler);
            case 26:
                return desk.item(a[0]);
            default:
                return desk.jobs(small);
        }
    }
}
