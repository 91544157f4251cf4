import java.io.IOException;
import java.nio.file.Files;
import java.nio.file.Path;
import java.util.HashSet;
import java.util.Set;

/**
 * Runs of calls recorded in src/test/data/runs.txt. Their logs, states, results and numbers of promises were
 * found the same when the same calls were made on the promises of V8 (Node.js 20).
 *
 * A line is a call with its arguments and, last, its answer; or what is due when all jobs have been done: drain
 * (the new pairs of the log), proms (how many promises there are), states (of the promises that a call gave; U:
 * rejected and not handled). #v is an object that a call gave; others are described by what they hold.
 */
public final class RecordedRunsTest {
    private static PromiseDesk desk;
    private static Set<Integer> known;
    private static int pairs;

    public static void main(String[] args) throws IOException {
        String run = "";
        for (String line : Files.readAllLines(Path.of("src/test/data/runs.txt"))) {
            String[] words = line.split(" ");
            if (words[0].equals("new")) {
                desk = new PromiseDesk();
                known = new HashSet<>();
                pairs = 0;
                run = "run " + words[1] + ": ";
            } else if (words[0].equals("drain")) {
                desk.jobs(1000000);
                Check.due(run + "the log", line, "drain" + newPairs());
            } else if (words[0].equals("proms")) {
                Check.due(run + "promises", line, "proms " + promises());
            } else if (words[0].equals("states")) {
                Check.due(run + "states", line, "states" + states(words));
            } else {
                call(run, line, words);
            }
        }
        Check.end();
    }

    private static void call(String run, String line, String[] words) {
        String due = words[words.length - 1];
        String got = answer(words);
        Check.due(run + line, due, got);
        if (due.startsWith("-") && !words[0].equals("later")) {
            known.add(Integer.parseInt(due));
        }
    }

    private static String answer(String[] w) {
        switch (w[0]) {
            case "promise":
                return "" + desk.promise();
            case "handler":
                return "" + desk.handler(n(w[1]), n(w[2]));
            case "thenable":
                return "" + desk.thenable(n(w[1]), n(w[2]), n(w[3]), n(w[4]), n(w[5]));
            case "settle":
                return "" + desk.settle(n(w[1]), w[2].equals("true"), n(w[3]));
            case "later":
                return "" + desk.later(n(w[1]), w[2].equals("true"), n(w[3]));
            case "then":
                return "" + desk.then(n(w[1]), n(w[2]), n(w[3]), w[4].equals("true"));
            case "lastly":
                return "" + desk.lastly(n(w[1]), n(w[2]));
            case "wrap":
                return "" + desk.wrap(n(w[1]));
            case "broken":
                return "" + desk.broken(n(w[1]));
            case "item":
                return "" + desk.item(n(w[1]));
            case "combine":
                return "" + desk.combine(n(w[1]));
            case "async":
                return "" + desk.async(n(w[1]), n(w[2]));
            default:
                return "no call: " + w[0];
        }
    }

    private static int n(String word) {
        return Integer.parseInt(word);
    }

    private static String newPairs() {
        StringBuilder text = new StringBuilder();
        for (; pairs < desk.count(2); pairs++) {
            text.append(' ').append(told(desk.log(pairs, false), 0)).append('=').append(told(desk.log(pairs, true), 0));
        }
        return text.toString();
    }

    private static int promises() {
        int found = 0;
        for (int k = 0; k < desk.count(0); k++) {
            found += desk.kind(-2 - k) == 0 ? 1 : 0;
        }
        return found;
    }

    private static String states(String[] words) {
        StringBuilder text = new StringBuilder();
        for (int i = 1; i < words.length; i++) {
            int p = n(words[i].substring(0, words[i].indexOf(':')));
            int state = desk.state(p);
            text.append(' ').append(p).append(':').append(state % 4).append(state == 2 ? "U" : "").append(':');
            text.append(state % 4 == 0 ? "" : told(desk.result(p), 0));
        }
        return text.toString();
    }

    private static String told(int v, int depth) {
        if (v >= -1) {
            return v == -1 ? "u" : "" + v;
        }
        if (known.contains(v)) {
            return "#" + v;
        }
        if (depth > 6) {
            return "deep";
        }
        switch (desk.kind(v)) {
            case 0:
                return "P";
            case 2:
                return "TE";
            case 3:
                return "AE" + listed(v, depth);
            case 4:
                return listed(v, depth);
            case 5:
                return "{" + (desk.part(v, 0) == 1 ? "f:" : "r:") + told(desk.part(v, 1), depth + 1) + "}";
            default:
                return "?";
        }
    }

    private static String listed(int v, int depth) {
        StringBuilder text = new StringBuilder("[");
        for (int i = 0; i < desk.part(v, -1); i++) {
            text.append(i == 0 ? "" : ",").append(told(desk.part(v, i), depth + 1));
        }
        return text.append(']').toString();
    }
}
