import java.util.ArrayList;
import java.util.Arrays;

/**
 * A desk of promises by ECMA-262, 14th edition. The numbers in brackets are the standard's sections.
 */
public final class PromiseDesk {
    private static final int UNDEFINED = -1;
    private static final int GREATEST_NUMBER = 999;
    private static final int FIRST_OBJECT = -2;
    private static final int NO_HANDLER = -1;
    private static final int NO_PAIR = -1000000;

    private static final int MOST_OBJECTS = 3000;
    private static final int MOST_HANDLERS = 1000;
    private static final int MOST_ITEMS = 200;
    private static final int MOST_PAIRS = 4000;
    private static final int FIRST_PAIRS = 32;
    private static final int USUAL_ROOM = 8;
    private static final int ROOM_PER_ITEM = 2;

    private static final int PROMISE = 0;
    private static final int THENABLE = 1;
    private static final int TYPE_ERROR = 2;
    private static final int AGGREGATE_ERROR = 3;
    private static final int ARRAY = 4;
    private static final int SETTLED = 5;

    private static final int PENDING = 0;
    private static final int FULFILLED = 1;
    private static final int REJECTED = 2;
    private static final int HANDLED = 4;

    private static final int GIVE_VALUE = 0;
    private static final int GIVE_ARGUMENT = 1;
    private static final int THROW_VALUE = 2;
    private static final int THROW_ARGUMENT = 3;
    private static final int RESOLVE = 4;
    private static final int REJECT = 5;

    private static final int THEN_WORKS = 0;
    private static final int THEN_THROWS = 1;
    private static final int THEN_IS_NO_FUNCTION = 2;

    private static final int NOTHING = 0;
    private static final int CALL_FIRST = 1;
    private static final int CALL_SECOND = 2;
    private static final int THROW = 3;
    private static final int KEEP = 4;

    private static final int ALL = 0;
    private static final int ALL_SETTLED = 1;
    private static final int ANY = 2;
    private static final int RACE = 3;

    private final ArrayList<Thing> things;
    private final ArrayList<Simple> handlers;
    private final int[] items;
    private int itemCount;
    private int[] pairs;
    private int pairCount;
    private Job firstJob;
    private Job lastJob;
    private int jobCount;
    /** Whether the function called last ended by a throw: its answer is then what it threw. */
    private boolean threw;

    public PromiseDesk() {
        things = new ArrayList<Thing>();
        handlers = new ArrayList<Simple>();
        items = new int[MOST_ITEMS];
        pairs = new int[2 * FIRST_PAIRS];
    }

    public int promise() throws IllegalStateException {
        requireRoom(USUAL_ROOM);
        Resolvers made = newPromise();
        made.promise.kept = made;
        return made.promise.value;
    }

    public int handler(int act, int v) throws IllegalArgumentException, IllegalStateException {
        requireRange(act, GIVE_VALUE, REJECT);
        requireValue(v);
        Resolvers target = act == RESOLVE || act == REJECT ? requireKept(v) : null;
        if (handlers.size() >= MOST_HANDLERS) {
            throw new IllegalStateException("no more handlers");
        }
        handlers.add(new Simple(handlers.size(), act, v, target));
        return handlers.size() - 1;
    }

    public int thenable(int what, int a, int v, int b, int w)
            throws IllegalArgumentException, IllegalStateException {
        requireRange(what, THEN_WORKS, THEN_IS_NO_FUNCTION);
        requireRange(a, NOTHING, KEEP);
        requireRange(b, NOTHING, KEEP);
        requireValue(v);
        requireValue(w);
        requireRoom(USUAL_ROOM);
        Thenable made = new Thenable(nextValue(), what);
        made.firstAct = a;
        made.firstValue = v;
        made.secondAct = b;
        made.secondValue = w;
        things.add(made);
        return made.value;
    }

    public boolean settle(int p, boolean rejects, int v) throws IllegalArgumentException, IllegalStateException {
        Resolvers kept = requireKept(p);
        requireValue(v);
        requireRoom(USUAL_ROOM);
        return callOneOf(kept, rejects, v);
    }

    public int later(int t, boolean rejects, int v) throws IllegalArgumentException, IllegalStateException {
        Thenable thenable = requireThenable(t);
        requireValue(v);
        requireRoom(USUAL_ROOM);
        if (thenable.kept == null) {
            return -1;
        }
        return callOneOf(thenable.kept, rejects, v) ? 1 : 0;
    }

    public int then(int p, int yes, int no, boolean some) throws IllegalArgumentException, IllegalStateException {
        Promise promise = requirePromise(p);
        Simple onYes = requireHandler(yes);
        Simple onNo = some ? requireHandler(no) : null;
        requireRoom(USUAL_ROOM);
        return derive(promise, onYes, onNo);
    }

    public int lastly(int p, int h) throws IllegalArgumentException, IllegalStateException {
        Promise promise = requirePromise(p);
        Simple handler = requireHandler(h);
        requireRoom(USUAL_ROOM);
        if (handler == null) {
            return derive(promise, null, null);
        }
        return derive(promise, new Lastly(handler, GIVE_VALUE), new Lastly(handler, THROW_VALUE));
    }

    public int wrap(int v) throws IllegalArgumentException, IllegalStateException {
        requireValue(v);
        requireRoom(USUAL_ROOM);
        return promiseFor(v).value;
    }

    public int broken(int v) throws IllegalArgumentException, IllegalStateException {
        requireValue(v);
        requireRoom(USUAL_ROOM);
        Resolvers made = newPromise();
        reject(made, v);
        return made.promise.value;
    }

    public int item(int v) throws IllegalArgumentException, IllegalStateException {
        requireValue(v);
        if (itemCount >= MOST_ITEMS) {
            throw new IllegalStateException("the list is full");
        }
        items[itemCount] = v;
        itemCount++;
        return itemCount;
    }

    public int combine(int sort) throws IllegalArgumentException, IllegalStateException {
        requireRange(sort, ALL, RACE);
        requireRoom(USUAL_ROOM + ROOM_PER_ITEM * itemCount);
        int[] list = takeList();
        Resolvers made = newPromise();
        Combination combination = new Combination(sort, list.length, made);
        for (int i = 0; i < list.length; i++) {
            Promise next = promiseFor(list[i]);
            derive(next, onFulfilled(combination, i), onRejected(combination, i));
        }
        // No element answers before its job, so only an empty list is complete here; a race never is.
        if (list.length == 0 && sort != RACE) {
            complete(combination);
        }
        return made.promise.value;
    }

    public int async(int end, int h) throws IllegalArgumentException, IllegalStateException {
        requireValue(end);
        Simple handler = requireHandler(h);
        requireRoom(USUAL_ROOM);
        Resolvers made = newPromise();
        advance(new AsyncRun(takeList(), handler, end, made));
        return made.promise.value;
    }

    public int jobs(int n) throws IllegalStateException {
        int done = 0;
        for (Job job = firstJob; job != null && done < n; job = firstJob) {
            requireRoom(USUAL_ROOM);
            requireRoomInLog();
            dequeue(job);
            doJob(job);
            done++;
        }
        return done;
    }

    public int state(int p) throws IllegalArgumentException {
        Promise promise = requirePromise(p);
        return promise.handled ? promise.state + HANDLED : promise.state;
    }

    public int result(int p) throws IllegalArgumentException {
        return requirePromise(p).result;
    }

    public int kind(int v) throws IllegalArgumentException {
        return requireThing(v).kind;
    }

    public int part(int v, int i) throws IllegalArgumentException {
        int[] parts = requireParts(v);
        if (i == -1) {
            return parts.length;
        }
        requireRange(i, 0, parts.length - 1);
        return parts[i];
    }

    public int log(int i, boolean what) {
        if (i < 0 || i >= pairCount) {
            return NO_PAIR;
        }
        return pairs[what ? 2 * i + 1 : 2 * i];
    }

    public int count(int what) throws IllegalArgumentException {
        switch (what) {
            case 0:
                return things.size();
            case 1:
                return jobCount;
            case 2:
                return pairCount;
            case 3:
                return itemCount;
            case 4:
                return handlers.size();
            default:
                throw new IllegalArgumentException("nothing of that number is counted");
        }
    }

    private void requireRange(int x, int least, int greatest) {
        if (x < least || x > greatest) {
            throw new IllegalArgumentException("out of range");
        }
    }

    private void requireValue(int v) {
        boolean plain = v >= UNDEFINED && v <= GREATEST_NUMBER;
        if (!plain && thingOf(v) == null) {
            throw new IllegalArgumentException("no value");
        }
    }

    private Thing requireThing(int v) {
        Thing thing = thingOf(v);
        if (thing == null) {
            throw new IllegalArgumentException("no object");
        }
        return thing;
    }

    private Promise requirePromise(int p) {
        if (thingOf(p) instanceof Promise promise) {
            return promise;
        }
        throw new IllegalArgumentException("no promise");
    }

    private Thenable requireThenable(int t) {
        if (thingOf(t) instanceof Thenable thenable) {
            return thenable;
        }
        throw new IllegalArgumentException("no thenable");
    }

    private Resolvers requireKept(int p) {
        Resolvers kept = requirePromise(p).kept;
        if (kept == null) {
            throw new IllegalArgumentException("not made by promise");
        }
        return kept;
    }

    /** The HANDLER of that number; null stands for undefined. */
    private Simple requireHandler(int h) {
        if (h == NO_HANDLER) {
            return null;
        }
        requireRange(h, 0, handlers.size() - 1);
        return handlers.get(h);
    }

    private int[] requireParts(int v) {
        int[] parts = requireThing(v).parts;
        if (parts == null) {
            throw new IllegalArgumentException("it has no parts");
        }
        return parts;
    }

    private void requireRoom(int objects) {
        if (MOST_OBJECTS - things.size() < objects) {
            throw new IllegalStateException("no room for more objects");
        }
    }

    private void requireRoomInLog() {
        if (pairCount >= MOST_PAIRS) {
            throw new IllegalStateException("the log is full");
        }
    }

    private Thing thingOf(int v) {
        if (v > FIRST_OBJECT) {
            return null;
        }
        int k = FIRST_OBJECT - v;
        return k < things.size() ? things.get(k) : null;
    }

    private int nextValue() {
        return FIRST_OBJECT - things.size();
    }

    private int newThing(int kind, int[] parts) {
        Thing made = new Thing(nextValue(), kind, parts);
        things.add(made);
        return made.value;
    }

    private Resolvers newPromise() {
        Promise made = new Promise(nextValue());
        things.add(made);
        return new Resolvers(made);
    }

    private void note(int who, int argument) {
        if (2 * pairCount + 1 >= pairs.length) {
            pairs = Arrays.copyOf(pairs, 2 * pairs.length);
        }
        pairs[2 * pairCount] = who;
        pairs[2 * pairCount + 1] = argument;
        pairCount++;
    }

    private int[] takeList() {
        int[] list = Arrays.copyOf(items, itemCount);
        itemCount = 0;
        return list;
    }

    private void enqueue(Job job) {
        if (lastJob == null) {
            firstJob = job;
        } else {
            lastJob.next = job;
        }
        lastJob = job;
        jobCount++;
    }

    private void dequeue(Job first) {
        firstJob = first.next;
        if (firstJob == null) {
            lastJob = null;
        }
        jobCount--;
    }

    private boolean callOneOf(Resolvers pair, boolean rejects, int v) {
        boolean first = !pair.called;
        if (rejects) {
            reject(pair, v);
        } else {
            resolve(pair, v);
        }
        return first;
    }

    /** Promise Resolve Functions (27.2.1.3.2). */
    private void resolve(Resolvers pair, int resolution) {
        if (pair == null || pair.called) {
            return;
        }
        pair.called = true;
        Promise promise = pair.promise;
        Thing thing = thingOf(resolution);
        if (resolution == promise.value) {
            close(promise, REJECTED, newThing(TYPE_ERROR, null));
        } else if (thing instanceof Thenable thenable && thenable.what == THEN_THROWS) {
            close(promise, REJECTED, thenable.firstValue);
        } else if (hasThenFunction(thing)) {
            enqueue(Job.follow(thing, promise));
        } else {
            close(promise, FULFILLED, resolution);
        }
    }

    private boolean hasThenFunction(Thing thing) {
        if (thing instanceof Thenable thenable) {
            return thenable.what == THEN_WORKS;
        }
        return thing instanceof Promise;
    }

    /** Promise Reject Functions (27.2.1.3.1). */
    private void reject(Resolvers pair, int reason) {
        if (pair == null || pair.called) {
            return;
        }
        pair.called = true;
        close(pair.promise, REJECTED, reason);
    }

    /** FulfillPromise (27.2.1.4) and RejectPromise (27.2.1.7). */
    private void close(Promise promise, int state, int result) {
        promise.state = state;
        promise.result = result;
        Job job = promise.firstWaiting;
        promise.firstWaiting = null;
        promise.lastWaiting = null;
        while (job != null) {
            // Queueing the job links it anew, so the rest of the chain is kept first.
            Job rest = job.next;
            job.next = null;
            job.hear(state == REJECTED, result);
            enqueue(job);
            job = rest;
        }
    }

    /** PromiseResolve (27.2.4.7.1). */
    private Promise promiseFor(int v) {
        if (thingOf(v) instanceof Promise promise) {
            return promise;
        }
        Resolvers made = newPromise();
        resolve(made, v);
        return made.promise;
    }

    /** Promise.prototype.then (27.2.5.4): the new PROMISE's VALUE. */
    private int derive(Promise promise, Function yes, Function no) {
        Resolvers made = newPromise();
        attach(promise, Job.reaction(yes, no, made));
        return made.promise.value;
    }

    /** PerformPromiseThen (27.2.5.4.1). */
    private void attach(Promise promise, Job job) {
        promise.handled = true;
        if (promise.state != PENDING) {
            job.hear(promise.state == REJECTED, promise.result);
            enqueue(job);
            return;
        }
        if (promise.lastWaiting == null) {
            promise.firstWaiting = job;
        } else {
            promise.lastWaiting.next = job;
        }
        promise.lastWaiting = job;
    }

    private void doJob(Job job) {
        if (job.run != null) {
            if (hears(job.run, job)) {
                advance(job.run);
            }
        } else if (job.followed instanceof Promise promise) {
            derive(promise, Simple.resolving(job.capability), Simple.rejecting(job.capability));
        } else if (job.followed instanceof Thenable thenable) {
            callThen(thenable, job.capability);
        } else {
            // NewPromiseReactionJob (27.2.2.1): without a function the value or reason goes on as it came.
            Function function = job.rejects ? job.no : job.yes;
            threw = job.rejects;
            int outcome = function == null ? job.argument : function.callIn(this, job.argument);
            finish(job.capability, outcome);
        }
    }

    private void finish(Resolvers capability, int outcome) {
        if (threw) {
            reject(capability, outcome);
        } else {
            resolve(capability, outcome);
        }
    }

    /** Whether the asynchronous function goes on behind its await; its HANDLER has then been called. */
    private boolean hears(AsyncRun run, Job job) {
        threw = job.rejects;
        int outcome = job.argument;
        if (!threw && run.handler != null) {
            outcome = run.handler.callIn(this, outcome);
        }
        if (threw) {
            reject(run.capability, outcome);
        }
        return !threw;
    }

    /** Await (27.7.5.3) of the next VALUE, or the function's return (27.7.5.2). */
    private void advance(AsyncRun run) {
        if (run.next >= run.awaited.length) {
            resolve(run.capability, run.end);
            return;
        }
        Promise promise = promiseFor(run.awaited[run.next]);
        run.next++;
        attach(promise, Job.resumption(run));
    }

    private void callThen(Thenable thenable, Resolvers pair) {
        note(thenable.value, UNDEFINED);
        doAct(thenable, thenable.firstAct, thenable.firstValue, pair);
        if (thenable.firstAct != THROW) {
            doAct(thenable, thenable.secondAct, thenable.secondValue, pair);
        }
    }

    private void doAct(Thenable thenable, int act, int v, Resolvers pair) {
        switch (act) {
            case CALL_FIRST:
                resolve(pair, v);
                break;
            case CALL_SECOND:
            case THROW:
                // NewPromiseResolveThenableJob (27.2.2.2) calls the second function with what is thrown.
                reject(pair, v);
                break;
            case KEEP:
                thenable.kept = pair;
                break;
            default:
                break;
        }
    }

    private Function onFulfilled(Combination combination, int index) {
        if (combination.sort == ALL || combination.sort == ALL_SETTLED) {
            return new Element(combination, index, false);
        }
        return Simple.resolving(combination.capability);
    }

    private Function onRejected(Combination combination, int index) {
        if (combination.sort == ALL_SETTLED || combination.sort == ANY) {
            return new Element(combination, index, true);
        }
        return Simple.rejecting(combination.capability);
    }

    private void complete(Combination combination) {
        if (combination.sort == ANY) {
            int error = newThing(AGGREGATE_ERROR, combination.values);
            newThing(ARRAY, combination.values);
            reject(combination.capability, error);
        } else {
            resolve(combination.capability, newThing(ARRAY, combination.values));
        }
    }

    /** An OBJECT; parts are what part shows of it, null for kinds that have none. */
    private static class Thing {
        final int value;
        final int kind;
        final int[] parts;

        Thing(int value, int kind, int[] parts) {
            this.value = value;
            this.kind = kind;
            this.parts = parts;
        }
    }

    private static final class Promise extends Thing {
        int state;
        int result;
        boolean handled;
        /** Its functions, if promise made it. */
        Resolvers kept;
        Job firstWaiting;
        Job lastWaiting;

        Promise(int value) {
            super(value, PROMISE, null);
            state = PENDING;
            result = UNDEFINED;
        }
    }

    private static final class Thenable extends Thing {
        final int what;
        int firstAct;
        int firstValue;
        int secondAct;
        int secondValue;
        Resolvers kept;

        Thenable(int value, int what) {
            super(value, THENABLE, null);
            this.what = what;
        }
    }

    /** A PROMISE with the pair of functions that settle it and share [[AlreadyResolved]] (27.2.1.3). */
    private static final class Resolvers {
        final Promise promise;
        boolean called;

        Resolvers(Promise promise) {
            this.promise = promise;
        }
    }

    private abstract static class Function {
        /** What it gives or, if desk.threw is true behind it, throws. */
        abstract int callIn(PromiseDesk desk, int argument);
    }

    /** A HANDLER, or a function of the standard's own that acts like one but is not noted. */
    private static final class Simple extends Function {
        private final int number;
        private final int act;
        private final int value;
        private final Resolvers target;

        Simple(int number, int act, int value, Resolvers target) {
            this.number = number;
            this.act = act;
            this.value = value;
            this.target = target;
        }

        static Simple resolving(Resolvers target) {
            return new Simple(NO_HANDLER, RESOLVE, UNDEFINED, target);
        }

        static Simple rejecting(Resolvers target) {
            return new Simple(NO_HANDLER, REJECT, UNDEFINED, target);
        }

        @Override
        int callIn(PromiseDesk desk, int argument) {
            if (number != NO_HANDLER) {
                desk.note(number, argument);
            }
            desk.threw = act == THROW_VALUE || act == THROW_ARGUMENT;
            switch (act) {
                case GIVE_VALUE:
                case THROW_VALUE:
                    return value;
                case GIVE_ARGUMENT:
                case THROW_ARGUMENT:
                    return argument;
                case RESOLVE:
                    desk.resolve(target, argument);
                    return UNDEFINED;
                default:
                    desk.reject(target, argument);
                    return UNDEFINED;
            }
        }
    }

    /** Then Finally and Catch Finally Functions (27.2.5.3.1, 27.2.5.3.2). */
    private static final class Lastly extends Function {
        private final Simple handler;
        /** What is done with the old value or reason once the handler's own answer is settled. */
        private final int actBehind;

        Lastly(Simple handler, int actBehind) {
            this.handler = handler;
            this.actBehind = actBehind;
        }

        @Override
        int callIn(PromiseDesk desk, int argument) {
            int outcome = handler.callIn(desk, UNDEFINED);
            if (desk.threw) {
                return outcome;
            }
            Promise waited = desk.promiseFor(outcome);
            return desk.derive(waited, new Simple(NO_HANDLER, actBehind, argument, null), null);
        }
    }

    /** What Promise.all, allSettled and any keep until the last of their elements has answered. */
    private static final class Combination {
        final int sort;
        final int[] values;
        final Resolvers capability;
        int remaining;

        Combination(int sort, int length, Resolvers capability) {
            this.sort = sort;
            this.values = new int[length];
            this.capability = capability;
            this.remaining = length;
        }
    }

    /**
     * The element functions of a combination (27.2.4.1.2, 27.2.4.2.2, 27.2.4.2.3, 27.2.4.3.2). They need no
     * [[AlreadyCalled]]: each is known to one reaction alone, and that runs once.
     */
    private static final class Element extends Function {
        private final Combination combination;
        private final int index;
        private final boolean rejects;

        Element(Combination combination, int index, boolean rejects) {
            this.combination = combination;
            this.index = index;
            this.rejects = rejects;
        }

        @Override
        int callIn(PromiseDesk desk, int argument) {
            desk.threw = false;
            int entry = argument;
            if (combination.sort == ALL_SETTLED) {
                entry = desk.newThing(SETTLED, new int[] {rejects ? 0 : 1, argument});
            }
            if (index >= 0 && index < combination.values.length) {
                combination.values[index] = entry;
            }
            combination.remaining--;
            if (combination.remaining == 0) {
                desk.complete(combination);
            }
            return UNDEFINED;
        }
    }

    /** A call of an asynchronous function: what it still awaits and how it ends. */
    private static final class AsyncRun {
        final int[] awaited;
        final Simple handler;
        final int end;
        final Resolvers capability;
        int next;

        AsyncRun(int[] awaited, Simple handler, int end, Resolvers capability) {
            this.awaited = awaited;
            this.handler = handler;
            this.end = end;
            this.capability = capability;
        }
    }

    /**
     * A reaction, which waits in its promise's chain until that is settled and then in the queue; or the
     * job that follows a PROMISE or THENABLE, which waits in the queue alone.
     */
    private static final class Job {
        final Function yes;
        final Function no;
        final Resolvers capability;
        final AsyncRun run;
        final Thing followed;
        boolean rejects;
        int argument;
        Job next;

        private Job(Function yes, Function no, Resolvers capability, AsyncRun run, Thing followed) {
            this.yes = yes;
            this.no = no;
            this.capability = capability;
            this.run = run;
            this.followed = followed;
        }

        static Job reaction(Function yes, Function no, Resolvers capability) {
            return new Job(yes, no, capability, null, null);
        }

        static Job resumption(AsyncRun run) {
            return new Job(null, null, null, run, null);
        }

        static Job follow(Thing followed, Promise promise) {
            return new Job(null, null, new Resolvers(promise), null, followed);
        }

        void hear(boolean rejects, int argument) {
            this.rejects = rejects;
            this.argument = argument;
        }
    }
}
