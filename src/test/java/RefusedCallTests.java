/** Which error a refused call returns, which one where several apply, and that it changes nothing but what refusal tells. */
public final class RefusedCallTests extends RoomChecks {
    // What comes behind a refused call shows whether it changed something that no question tells.
    private static final Call[] AFTERWARDS = {
        x -> 0,
        x -> x.run(1),
        x -> x.run(60),
        x -> x.hold(0, 1) + x.hold(0, 0) + x.run(9),
        x -> x.emptyBin() + x.run(9),
        x -> x.undo(),
        x -> x.undo() + x.undo() + x.run(3),
        x -> x.undo() + x.undo() + x.undo() + x.undo(),
    };

    private RefusedCallTests() {
    }

    public static void main(String[] args) {
        refusedWhileBusy();
        notFoundWhileBusy();
        notPossibleWhileBusy();
        refusedWhenFull();
        refusedWhenNew();
        refusedAtTheMostTicks();
        jobErrorsInOrder();
        jobRefusedWhenFullTellsTheReason();
        otherErrorsInOrder();
        refusalTellsTheLatest();
        questionsChangeNothing();
        CHECKS.end("RefusedCallTests");
    }

    /** The call returns the error, and behind it all answers are those of a machine on which it was not called. */
    private static void refused(String name, Maker maker, Call call, int error) {
        refused(name, maker, call, error, maker.make().refusal());
    }

    private static void refused(String name, Maker maker, Call call, int error, int reason) {
        for (int i = 0; i < AFTERWARDS.length; i++) {
            PrintRoom x = maker.make();
            PrintRoom twin = maker.make();
            due(name, call.on(x), error);
            due(name + ": what refusal tells", x.refusal(), reason);
            due(name + ": states", x.count(15), twin.count(15));
            due(name + ": the text", x.count(16), twin.count(16));
            due(name + ": its fault", x.fault(0), twin.fault(0));
            due(name + ": the fault's reason", x.fault(1), twin.fault(1));
            due(name + ", then", AFTERWARDS[i].on(x), AFTERWARDS[i].on(twin));
            same(name + ", then " + i, told(x), told(twin));
            due(name + ", then " + i + ": states", x.count(15), twin.count(15));
        }
    }

    private static void busyRefused(String name, Call call, int error) {
        refused("busy: " + name, RoomChecks::busy, call, error);
    }

    private static void refusedWhileBusy() {
        busyRefused("fill(-1, 1)", x -> x.fill(-1, 1), INVALID);
        busyRefused("fill(4, 1)", x -> x.fill(4, 1), INVALID);
        busyRefused("fill(1, 0)", x -> x.fill(1, 0), INVALID);
        busyRefused("fill(1, 501)", x -> x.fill(1, 501), INVALID);
        busyRefused("load(4, 0, 0)", x -> x.load(4, 0, 0), INVALID);
        busyRefused("load(0, -1, 0)", x -> x.load(0, -1, 0), INVALID);
        busyRefused("load(0, 0, 4)", x -> x.load(0, 0, 4), INVALID);
        busyRefused("staples(-1)", x -> x.staples(-1), INVALID);
        busyRefused("staples(5001)", x -> x.staples(5001), INVALID);
        busyRefused("set(0, 0)", x -> x.set(SIDE, 0), INVALID);
        busyRefused("set(1, 21)", x -> x.set(TURN, 21), INVALID);
        busyRefused("set(6, 5)", x -> x.set(6, 5), INVALID);
        busyRefused("job(201, 1, 1, 0, 0)", x -> x.job(201, 1, 1, 0, 0), INVALID);
        busyRefused("job(1, 51, 1, 0, 0)", x -> x.job(1, 51, 1, 0, 0), INVALID);
        busyRefused("job(1, 1, 1, 0, 12)", x -> x.job(1, 1, 1, 0, 12), INVALID);
        busyRefused("hold(0, 2)", x -> x.hold(0, 2), INVALID);
        busyRefused("hold(-1, 1)", x -> x.hold(-1, 1), INVALID);
        busyRefused("cancel(-1)", x -> x.cancel(-1), INVALID);
        busyRefused("priority(0, 10)", x -> x.priority(0, 10), INVALID);
        busyRefused("priority(-1, 9)", x -> x.priority(-1, 9), INVALID);
        busyRefused("run(0)", x -> x.run(0), INVALID);
        busyRefused("run(5001)", x -> x.run(5001), INVALID);
        busyRefused("type(31)", x -> x.type(31), INVALID);
        busyRefused("type(127)", x -> x.type(127), INVALID);
        busyRefused("tray(4, 0)", x -> x.tray(4, 0), INVALID);
        busyRefused("tray(0, 4)", x -> x.tray(0, 4), INVALID);
        busyRefused("jobInfo(0, 13)", x -> x.jobInfo(0, 13), INVALID);
        busyRefused("queued(-1)", x -> x.queued(-1), INVALID);
        busyRefused("count(17)", x -> x.count(17), INVALID);
        busyRefused("account(9)", x -> x.account(9), INVALID);
        busyRefused("paper(0, 3)", x -> x.paper(0, 3), INVALID);
        busyRefused("lacking(4, 0)", x -> x.lacking(4, 0), INVALID);
        busyRefused("ticksTo(-1)", x -> x.ticksTo(-1), INVALID);
        busyRefused("fault(2)", x -> x.fault(2), INVALID);
    }

    private static void notFoundWhileBusy() {
        busyRefused("hold(3, 1)", x -> x.hold(3, 1), MISSING);
        busyRefused("hold(3, 0)", x -> x.hold(3, 0), MISSING);
        busyRefused("cancel(3)", x -> x.cancel(3), MISSING);
        busyRefused("priority(3, 9)", x -> x.priority(3, 9), MISSING);
        busyRefused("jobInfo(3, 0)", x -> x.jobInfo(3, 0), MISSING);
        busyRefused("queued(3)", x -> x.queued(3), MISSING);
        busyRefused("paper(1, 0)", x -> x.paper(1, 0), MISSING);
        busyRefused("ticksTo(3)", x -> x.ticksTo(3), MISSING);
        busyRefused("ticksTo of the held one", x -> x.ticksTo(1), MISSING);
        busyRefused("fault(0)", x -> x.fault(0), MISSING);
    }

    private static void notPossibleWhileBusy() {
        Maker maker = RoomChecks::busy;
        refused("busy: not gathered", maker, x -> x.job(5, 1, A4, PLAIN, STAPLE1), IMPOSSIBLE, 1);
        refused("busy: film", maker, x -> x.job(5, 1, A4, FILM, GATHER + STAPLE2), IMPOSSIBLE, 2);
        refused("busy: one sheet", maker, x -> x.job(1, 1, A4, PLAIN, GATHER + STAPLE2), IMPOSSIBLE, 3);
        refused("busy: too many sheets", maker, x -> x.job(31, 1, A4, PLAIN, GATHER + STAPLE2), IMPOSSIBLE, 4);
        refused("busy: enter", RefusedCallTests::busyWithFault, x -> x.enter(), IMPOSSIBLE);
    }

    private static PrintRoom busyWithFault() {
        PrintRoom x = busy();
        x.type('x');
        return x;
    }

    /** All sheets of job 0 are in the bin, its second set is not stapled, and it is held. */
    private static PrintRoom busyWithPrintedJob() {
        PrintRoom x = busy();
        x.run(8);
        x.priority(0, 5);
        x.hold(0, 1);
        return x;
    }

    private static void refusedWhenFull() {
        refusedWhenFull(RoomChecks::full);
        refusedWhenFull(RoomChecks::busyAndFull);
    }

    private static void refusedWhenFull(Maker maker) {
        refused("full: fill(0, 2)", maker, x -> x.fill(0, 2), LIMIT);
        refused("full: fill(0, 500)", maker, x -> x.fill(0, 500), LIMIT);
        refused("full: job", maker, x -> x.job(1, 1, A4, PLAIN, 0), LIMIT);
        refused("full: type", maker, x -> x.type(';'), LIMIT);
        refused("full: hold(10, 0)", maker, x -> x.hold(10, 0), MISSING);
        refused("full: cancel(10)", maker, x -> x.cancel(10), MISSING);
        refused("full: priority(10, 1)", maker, x -> x.priority(10, 1), MISSING);
        refused("full: enter", maker, x -> x.enter(), IMPOSSIBLE);
        refused("full: job to be stapled", maker, x -> x.job(2, 1, A4, PLAIN, STAPLE1), IMPOSSIBLE, 1);
    }

    private static void refusedWhenNew() {
        Maker maker = PrintRoom::new;
        refused("new: undo", maker, x -> x.undo(), IMPOSSIBLE);
        refused("new: refusal", maker, x -> x.refusal(), MISSING);
        refused("new: count(7)", maker, x -> x.count(7), MISSING);
        refused("new: hold", maker, x -> x.hold(0, 1), MISSING);
        refused("new: cancel", maker, x -> x.cancel(0), MISSING);
        refused("new: priority", maker, x -> x.priority(0, 1), MISSING);
        refused("new: job", maker, x -> x.job(1, 1, A4, PLAIN, GATHER + STAPLE1), IMPOSSIBLE, 3);
        Maker busyWithoutStates = () -> {
            PrintRoom x = busy();
            for (int i = 0; i < 4; i++) {
                x.staples(i);
            }
            for (int i = 0; i < 4; i++) {
                x.undo();
            }
            return x;
        };
        refused("busy, no states: undo", busyWithoutStates, x -> x.undo(), IMPOSSIBLE);
    }

    private static void refusedAtTheMostTicks() {
        Maker maker = () -> {
            PrintRoom x = new PrintRoom();
            for (int i = 0; i < 199; i++) {
                x.run(5000);
            }
            x.run(4990);
            x.set(SPOILING, 3);
            x.fill(0, 9);
            x.job(3, 1, A4, PLAIN, 0);
            x.job(3, 1, A4, PLAIN, 0);
            x.run(3);
            x.priority(1, 9);
            x.type('1');
            return x;
        };
        refused("most ticks: run(8)", maker, x -> x.run(8), LIMIT);
        refused("most ticks: run(5000)", maker, x -> x.run(5000), LIMIT);
        refused("most ticks: run(5001)", maker, x -> x.run(5001), INVALID);
        refused("most ticks: run(0)", maker, x -> x.run(0), INVALID);
        due("most ticks: run(7)", maker.make().run(7), 3);
    }

    private static void jobErrorsInOrder() {
        PrintRoom x = full();
        due("full: only full", x.job(2, 1, A4, PLAIN, 0), LIMIT);
        due("full: not to be stapled", x.job(2, 1, A4, PLAIN, STAPLE2), IMPOSSIBLE);
        due("full: wrong pages", x.job(0, 1, A4, PLAIN, 0), INVALID);
        due("full: wrong copies, not to be stapled", x.job(2, 51, A4, PLAIN, STAPLE1), INVALID);
        due("full: wrong size, not to be stapled", x.job(2, 1, 4, FILM, GATHER + STAPLE1), INVALID);
        due("full: wrong kind, not to be stapled", x.job(2, 1, A4, 4, STAPLE1), INVALID);
        due("full: both staples", x.job(2, 1, A4, PLAIN, STAPLE1 + STAPLE2), INVALID);
        PrintRoom y = new PrintRoom();
        due("room: not to be stapled", y.job(2, 1, A4, PLAIN, STAPLE2), IMPOSSIBLE);
        due("room: wrong pages, not to be stapled", y.job(201, 1, A4, PLAIN, STAPLE2), INVALID);
        due("room: wrong pages, of one sheet", y.job(0, 1, A4, PLAIN, GATHER + STAPLE2), INVALID);
        due("room: what is wrong is not told", y.refusal(), 1);
    }

    private static void jobRefusedWhenFullTellsTheReason() {
        PrintRoom x = full();
        due("full: none yet", x.refusal(), MISSING);
        x.job(2, 1, A4, PLAIN, 0);
        due("full: none for the full queue", x.refusal(), MISSING);
        x.job(1, 1, A4, PLAIN, GATHER + STAPLE1);
        due("full: the reason is told", x.refusal(), 3);
        x.job(2, 1, A4, PLAIN, 0);
        due("full: it stays", x.refusal(), 3);
    }

    private static void otherErrorsInOrder() {
        PrintRoom x = full();
        due("fill: wrong rather than full", x.fill(0, 501), INVALID);
        due("fill: wrong tray rather than too many", x.fill(4, 500), INVALID);
        due("fill: full", x.fill(0, 500), LIMIT);
        due("hold: wrong rather than missing", x.hold(10, 2), INVALID);
        due("hold: wrong rather than missing", x.hold(10, -1), INVALID);
        due("hold: both wrong", x.hold(-1, 2), INVALID);
        due("hold: missing", x.hold(10, 1), MISSING);
        due("cancel: negative rather than missing", x.cancel(-1), INVALID);
        due("cancel: missing", x.cancel(10), MISSING);
        due("priority: wrong rather than missing", x.priority(10, 10), INVALID);
        due("priority: wrong rather than missing", x.priority(10, -1), INVALID);
        due("priority: missing", x.priority(10, 9), MISSING);
        due("jobInfo: wrong rather than missing", x.jobInfo(10, 13), INVALID);
        due("jobInfo: wrong rather than missing", x.jobInfo(10, -1), INVALID);
        due("jobInfo: missing", x.jobInfo(10, 12), MISSING);
        due("paper: wrong rather than missing", x.paper(1, 3), INVALID);
        due("paper: wrong rather than missing", x.paper(1, -1), INVALID);
        due("paper: negative", x.paper(-1, 0), INVALID);
        due("paper: missing", x.paper(1, 2), MISSING);
        due("type: wrong rather than full", x.type(31), INVALID);
        due("type: wrong rather than full", x.type(127), INVALID);
        due("type: full", x.type(32), LIMIT);
        PrintRoom y = new PrintRoom();
        due("queued: negative rather than missing", y.queued(-1), INVALID);
        due("queued: missing", y.queued(0), MISSING);
        due("ticksTo: negative rather than missing", y.ticksTo(-1), INVALID);
        due("ticksTo: missing", y.ticksTo(0), MISSING);
        due("fault: wrong rather than missing", y.fault(2), INVALID);
        due("fault: missing", y.fault(0), MISSING);
        due("paper: wrong rather than missing", y.paper(0, 3), INVALID);
        due("paper: missing", y.paper(0, 2), MISSING);
    }

    private static void refusalTellsTheLatest() {
        PrintRoom x = new PrintRoom();
        due("refusal: none", x.refusal(), MISSING);
        int[][] wrong = {{0, 1, A4, PLAIN}, {201, 1, A4, PLAIN}, {5, 0, A4, PLAIN}, {5, 51, A4, PLAIN}, {5, 1, 4, PLAIN},
            {5, 1, -1, FILM}, {5, 1, A4, 4}};
        for (int[] w : wrong) {
            for (int how : new int[] {STAPLE1, GATHER + STAPLE2}) {
                due("refusal: wrong, though it could not be stapled", x.job(w[0], w[1], w[2], w[3], how), INVALID);
                due("refusal: none for a wrong one", x.refusal(), MISSING);
            }
        }
        x.job(1, 1, A4, FILM, STAPLE1);
        due("refusal: the first", x.refusal(), 1);
        x.job(31, 1, A4, PLAIN, GATHER + STAPLE1);
        due("refusal: the latest", x.refusal(), 4);
        x.job(30, 1, A4, PLAIN, GATHER + STAPLE1);
        due("refusal: not of one that is taken", x.refusal(), 4);
        x.job(31, 0, A4, PLAIN, STAPLE1);
        due("refusal: not of a wrong one", x.refusal(), 4);
        write(x, "5p 1c gather staple1 A4 film;");
        due("refusal: the text's fault", x.fault(1), 3);
        x.enter();
        due("refusal: not of a text", x.refusal(), 4);
        x.cancel(0);
        x.undo();
        x.undo();
        due("refusal: not taken back", x.refusal(), 4);
        due("refusal: nor does it count as a change", x.undo(), IMPOSSIBLE);
    }

    private static void questionsChangeNothing() {
        Maker[] makers = {PrintRoom::new, RoomChecks::busy, RoomChecks::filled, RefusedCallTests::busyWithFault,
            RefusedCallTests::busyWithPrintedJob};
        for (Maker maker : makers) {
            for (Call afterwards : AFTERWARDS) {
                PrintRoom x = maker.make();
                PrintRoom twin = maker.make();
                same("questions: asked again", told(x), told(x));
                toldBesides(x);
                due("questions: then", afterwards.on(x), afterwards.on(twin));
                same("questions: nothing changes", told(x), told(twin));
                same("questions: nothing changes", toldBesides(x), toldBesides(twin));
            }
        }
    }
}
