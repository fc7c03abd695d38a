import java.util.List;

/** For each promise: ordinary calls, the edges that the document names, and wrong arguments. Answers are worked out by hand. */
public final class PromiseTests extends RoomChecks {
    private PromiseTests() {
    }

    public static void main(String[] args) {
        newObject();
        fill();
        load();
        tray();
        staples();
        emptyBin();
        set();
        job();
        jobCannotBeStapled();
        refusal();
        hold();
        holdSpoils();
        cancel();
        priority();
        jobInfo();
        jobInfoOrderOfSheets();
        queued();
        nextJobStays();
        runSheets();
        runStaples();
        runSpoils();
        runStops();
        runLimits();
        stop();
        count();
        account();
        paper();
        lacking();
        ticksTo();
        undo();
        undoRestoresAll();
        type();
        clearText();
        faultForm();
        faultReasons();
        enter();
        errorsChangeNothing();
        CHECKS.end("PromiseTests");
    }

    private static void newObject() {
        PrintRoom x = new PrintRoom();
        for (int i = 0; i < 4; i++) {
            due("1: size", x.tray(i, 0), 1);
            due("1: kind", x.tray(i, 1), 0);
            due("1: sheets", x.tray(i, 2), 0);
            due("1: sheets of the paper", x.tray(i, 3), 0);
        }
        int[] counts = {0, 0, 0, 0, 100, 0, 0, MISSING, 2, 1, 3, 30, 0, 250, 0, 0, 0};
        for (int i = 0; i < counts.length; i++) {
            due("1: count " + i, x.count(i), counts[i]);
        }
        for (int i = 0; i < 9; i++) {
            due("1: account " + i, x.account(i), 0);
        }
        due("1: queued", x.queued(0), MISSING);
        due("1: paper", x.paper(0, 0), MISSING);
        due("1: refusal", x.refusal(), MISSING);
        due("1: stop", x.stop(), 1);
        due("1: undo", x.undo(), IMPOSSIBLE);
        due("1: fault", x.fault(0), MISSING);
    }

    private static void fill() {
        PrintRoom x = new PrintRoom();
        due("2: first", x.fill(0, 1), 1);
        due("2: on top", x.fill(0, 20), 21);
        due("2: full", x.fill(0, 479), 500);
        due("2: over", x.fill(0, 1), LIMIT);
        due("2: over still", x.tray(0, 2), 500);
        due("2: at once", x.fill(3, 500), 500);
        due("2: no sheets", x.fill(1, 0), INVALID);
        due("2: negative", x.fill(1, -1), INVALID);
        due("2: too many", x.fill(1, 501), INVALID);
        due("2: too many, full", x.fill(0, 501), INVALID);
        due("2: tray -1", x.fill(-1, 1), INVALID);
        due("2: tray 4", x.fill(4, 1), INVALID);
        for (int far : FAR) {
            due("2: far tray", x.fill(far, 1), INVALID);
            due("2: far sheets", x.fill(1, far), INVALID);
        }
        due("2: nothing filled", x.tray(1, 2), 0);
        due("2: states", x.count(15), 4);
    }

    private static void load() {
        PrintRoom x = new PrintRoom();
        x.fill(2, 33);
        due("3: taken out", x.load(2, 3, 2), 33);
        due("3: size", x.tray(2, 0), 3);
        due("3: kind", x.tray(2, 1), 2);
        due("3: sheets", x.tray(2, 2), 0);
        due("3: not taken by the machine", x.account(0), 0);
        x.fill(2, 5);
        due("3: the same paper", x.load(2, 3, 2), 5);
        due("3: empty", x.load(2, 0, 3), 0);
        for (int wrong : new int[] {-1, 4, Integer.MIN_VALUE, Integer.MAX_VALUE}) {
            due("3: tray", x.load(wrong, 0, 0), INVALID);
            due("3: size", x.load(0, wrong, 0), INVALID);
            due("3: kind", x.load(0, 0, wrong), INVALID);
        }
        due("3: the last one stands", x.tray(2, 1), 3);
        due("3: states", x.count(15), 4);
        x.undo();
        due("3: undone", x.tray(2, 1), 2);
        due("3: tray 0 as ever", x.tray(0, 0), 1);
    }

    private static void tray() {
        PrintRoom x = new PrintRoom();
        x.fill(0, 10);
        x.fill(1, 20);
        x.load(2, 1, 1);
        x.fill(2, 40);
        x.load(3, 2, 0);
        x.fill(3, 80);
        due("4: sheets", x.tray(1, 2), 20);
        due("4: of both trays", x.tray(1, 3), 30);
        due("4: another kind", x.tray(2, 3), 40);
        due("4: another size", x.tray(3, 3), 80);
        due("4: size", x.tray(3, 0), 2);
        due("4: kind", x.tray(2, 1), 1);
        for (int wrong : new int[] {-1, 4, Integer.MIN_VALUE, Integer.MAX_VALUE}) {
            due("4: tray", x.tray(wrong, 0), INVALID);
            due("4: what", x.tray(0, wrong), INVALID);
        }
        due("4: no change", x.count(15), 4);
    }

    private static void staples() {
        PrintRoom x = new PrintRoom();
        due("5: had at first", x.staples(5000), 100);
        due("5: had", x.staples(0), 5000);
        due("5: have", x.count(4), 0);
        due("5: none", x.staples(7), 0);
        due("5: negative", x.staples(-1), INVALID);
        due("5: too many", x.staples(5001), INVALID);
        due("5: far", x.staples(Integer.MIN_VALUE), INVALID);
        due("5: have still", x.count(4), 7);
        due("5: not used", x.account(4), 0);
        due("5: states", x.count(15), 3);
    }

    private static void emptyBin() {
        PrintRoom x = filled();
        due("6: empty", x.emptyBin(), 0);
        due("6: a change all the same", x.count(15), 2);
        x.job(3, 1, 1, 0, 0);
        x.run(6);
        due("6: had", x.emptyBin(), 3);
        due("6: has", x.count(3), 0);
        due("6: had none", x.emptyBin(), 0);
        due("6: accounts stay", x.account(1), 3);
        x.undo();
        x.undo();
        due("6: had still", x.count(3), 3);
    }

    private static void set() {
        int[] least = {1, 0, 0, 2, 0, 1};
        int[] greatest = {20, 20, 20, 100, 500, 1000};
        int[] first = {2, 1, 3, 30, 0, 250};
        PrintRoom x = new PrintRoom();
        for (int i = 0; i < 6; i++) {
            due("7: below the range " + i, x.set(i, least[i] - 1), INVALID);
            due("7: above the range " + i, x.set(i, greatest[i] + 1), INVALID);
            due("7: far", x.set(i, Integer.MIN_VALUE), INVALID);
            due("7: the first value " + i, x.set(i, least[i]), first[i]);
            due("7: the least " + i, x.set(i, greatest[i]), least[i]);
            due("7: the greatest " + i, x.count(8 + i), greatest[i]);
        }
        for (int wrong : new int[] {-1, 6, Integer.MIN_VALUE, Integer.MAX_VALUE}) {
            due("7: what", x.set(wrong, 5), INVALID);
        }
        x.undo();
        due("7: undone", x.count(13), 1);
        due("7: states", x.count(15), 3);
        PrintRoom y = filled();
        y.job(2, 1, 1, 0, 0);
        y.run(1);
        y.set(0, 10);
        due("7: what is under way takes its time", y.count(5), 1);
        due("7: the first sheet", y.run(1), 1);
        due("7: the second one takes longer", y.run(9), 0);
        due("7: ten ticks", y.run(1), 1);
    }

    private static void job() {
        PrintRoom x = new PrintRoom();
        due("8: the first", x.job(1, 1, 0, 0, 0), 0);
        due("8: the greatest", x.job(200, 50, 3, 3, BOTH + GATHER), 1);
        due("8: its priority", x.jobInfo(1, 5), 0);
        due("8: its sheets", x.jobInfo(1, 8), 5000);
        int[][] wrong = {{0, 1, 0, 0, 0}, {201, 1, 0, 0, 0}, {1, 0, 0, 0, 0}, {1, 51, 0, 0, 0}, {1, 1, -1, 0, 0},
            {1, 1, 4, 0, 0}, {1, 1, 0, -1, 0}, {1, 1, 0, 4, 0}, {1, 1, 0, 0, -1}, {1, 1, 0, 0, 12}, {1, 1, 0, 0, 15},
            {1, 1, 0, 0, 16}, {5, 1, 0, 0, 14}};
        for (int[] w : wrong) {
            due("8: wrong " + java.util.Arrays.toString(w), x.job(w[0], w[1], w[2], w[3], w[4]), INVALID);
        }
        for (int far : FAR) {
            due("8: far", x.job(far, 1, 0, 0, 0), INVALID);
            due("8: far", x.job(1, far, 0, 0, 0), INVALID);
            due("8: far", x.job(1, 1, far, 0, 0), INVALID);
            due("8: far", x.job(1, 1, 0, far, 0), INVALID);
            due("8: far", x.job(1, 1, 0, 0, far), INVALID);
        }
        due("8: with two staples", x.job(2, 1, 0, 0, GATHER + STAPLE2), 2);
        due("8: how it is", x.jobInfo(2, 4), 10);
        for (int i = 3; i < 10; i++) {
            due("8: more", x.job(1, 1, 0, 0, 0), i);
        }
        due("8: full", x.job(1, 1, 0, 0, 0), LIMIT);
        due("8: full and wrong", x.job(0, 1, 0, 0, 0), INVALID);
        due("8: full and not to be stapled", x.job(1, 1, 0, 0, STAPLE1), IMPOSSIBLE);
        due("8: the next number", x.count(2), 10);
        x.cancel(4);
        due("8: never the same number again", x.job(1, 1, 0, 0, 0), 10);
        x.undo();
        due("8: but behind undo", x.job(2, 1, 0, 0, 0), 10);
    }

    private static void jobCannotBeStapled() {
        PrintRoom x = new PrintRoom();
        refused(x, 1, 1, 3, STAPLE1, 1);
        refused(x, 100, 1, 0, BOTH + STAPLE2, 1);
        refused(x, 1, 1, 3, GATHER + STAPLE1, 2);
        refused(x, 1, 1, 0, GATHER + STAPLE2, 3);
        refused(x, 2, 9, 0, BOTH + GATHER + STAPLE2, 3);
        refused(x, 31, 1, 0, GATHER + STAPLE1, 4);
        refused(x, 16, 1, 1, GATHER + STAPLE1, 4);
        refused(x, 61, 1, 2, BOTH + GATHER + STAPLE1, 4);
        due("8: 30 sheets", x.job(30, 1, 1, 0, GATHER + STAPLE1), 0);
        due("8: 15 thick sheets", x.job(15, 1, 1, 1, GATHER + STAPLE1), 1);
        due("8: 60 pages", x.job(60, 1, 1, 2, BOTH + GATHER + STAPLE1), 2);
        x.set(3, 7);
        refused(x, 8, 1, 2, GATHER + STAPLE1, 4);
        refused(x, 4, 1, 1, GATHER + STAPLE1, 4);
        due("8: 7 sheets", x.job(7, 1, 1, 2, GATHER + STAPLE1), 3);
        due("8: half of 7, rounded down", x.job(3, 1, 1, 1, GATHER + STAPLE1), 4);
        due("8: not stapled", x.job(200, 1, 1, 3, GATHER), 5);
        x.set(3, 2);
        refused(x, 2, 1, 1, GATHER + STAPLE1, 4);
        due("8: those in the queue stay", x.count(0), 6);
    }

    private static void refused(PrintRoom x, int pages, int copies, int kind, int how, int reason) {
        due("8: refused", x.job(pages, copies, 1, kind, how), IMPOSSIBLE);
        due("9: the reason", x.refusal(), reason);
    }

    private static void refusal() {
        PrintRoom x = filled();
        due("9: none", x.refusal(), MISSING);
        x.job(1, 1, 1, 0, STAPLE1 + STAPLE2);
        due("9: not of a wrong one", x.refusal(), MISSING);
        rewrite(x, "5p 1c staple1 A4 plain;");
        x.enter();
        due("9: not of a text", x.refusal(), MISSING);
        x.job(9, 1, 1, 3, GATHER + STAPLE1);
        due("9: film", x.refusal(), 2);
        x.job(9, 1, 1, 0, GATHER + STAPLE1);
        due("9: the latest one that was refused", x.refusal(), 2);
        x.undo();
        x.undo();
        due("9: not undone", x.refusal(), 2);
        due("9: no change", x.undo(), IMPOSSIBLE);
        x.job(9, 1, 1, 0, STAPLE1);
        due("9: another", x.refusal(), 1);
    }

    private static void hold() {
        PrintRoom x = filled();
        x.job(1, 1, 1, 0, 0);
        due("10: goes on anyway", x.hold(0, 0), 0);
        due("10: hold", x.hold(0, 1), 0);
        due("10: held", x.jobInfo(0, 6), 1);
        due("10: again", x.hold(0, 1), 1);
        due("10: held ones", x.count(1), 1);
        due("10: stops", x.stop(), 1);
        due("10: nothing printed", x.run(10), 0);
        due("10: goes on", x.hold(0, 0), 1);
        due("10: not held", x.count(1), 0);
        due("10: printed", x.run(2), 1);
        due("10: gone", x.hold(0, 1), MISSING);
        due("10: never there", x.hold(1, 1), MISSING);
        due("10: far", x.hold(Integer.MAX_VALUE, 1), MISSING);
        due("10: negative", x.hold(-1, 1), INVALID);
        due("10: held 2", x.hold(0, 2), INVALID);
        due("10: held -1", x.hold(5, -1), INVALID);
    }

    private static void holdSpoils() {
        PrintRoom x = filled();
        x.job(3, 1, 1, 0, 0);
        x.run(3);
        due("10: a sheet under way", x.count(6), 1);
        x.hold(0, 0);
        due("10: to let it go on spoils nothing", x.count(6), 1);
        x.hold(0, 1);
        due("10: spoiled at once", x.account(2), 1);
        due("10: no work", x.count(6), 0);
        due("10: no ticks", x.count(5), 0);
        due("10: of no job", x.count(7), MISSING);
        due("10: the same sheet", x.jobInfo(0, 11), 1);
        x.hold(0, 1);
        due("10: not once more", x.account(2), 1);
        x.hold(0, 0);
        x.set(4, 2);
        due("10: not counted as finished: the second one finished is spoiled", x.run(2), 0);
        due("10: by the machine", x.account(2), 2);
        due("10: taken", x.account(0), 3);

        PrintRoom y = filled();
        y.job(2, 1, 1, 0, GATHER + STAPLE2);
        y.run(6);
        due("10: a stapling under way", y.count(6), 2);
        y.hold(0, 1);
        due("10: given up", y.count(6), 0);
        due("10: no sheet is spoiled", y.account(2), 0);
        due("10: no staples", y.count(4), 100);
        y.hold(0, 0);
        y.run(2);
        due("10: begun again", y.count(5), 1);
        y.run(1);
        due("10: stapled", y.account(4), 2);
        due("10: finished", y.account(5), 1);
    }

    private static void cancel() {
        PrintRoom x = filled();
        x.job(5, 2, 1, 0, 0);
        x.job(1, 1, 1, 0, 0);
        x.run(5);
        x.emptyBin();
        x.run(2);
        due("11: in the bin, emptied or not", x.cancel(0), 3);
        due("11: the bin stays", x.count(3), 1);
        due("11: the sheet under way", x.account(2), 1);
        due("11: cancelled", x.account(6), 1);
        due("11: not finished", x.account(5), 0);
        due("11: no work", x.count(6), 0);
        due("11: in the queue", x.count(0), 1);
        due("11: gone", x.cancel(0), MISSING);
        due("11: never there", x.cancel(2), MISSING);
        due("11: negative", x.cancel(-1), INVALID);
        due("11: far", x.cancel(Integer.MIN_VALUE), INVALID);
        x.run(1);
        due("11: the other one's sheet", x.count(7), 1);
        due("11: at once", x.cancel(1), 0);
        due("11: both", x.account(6), 2);
        due("11: stops", x.stop(), 1);

        PrintRoom y = filled();
        y.job(2, 1, 1, 0, GATHER + STAPLE1);
        y.job(1, 1, 1, 0, 0);
        y.run(5);
        due("11: another one goes on", y.cancel(1), 0);
        due("11: its stapling", y.count(6), 2);
        due("11: while it is stapled", y.cancel(0), 2);
        due("11: no staples", y.account(4), 0);
        due("11: nothing spoiled", y.account(2), 0);
    }

    private static void priority() {
        PrintRoom x = filled();
        x.job(1, 1, 1, 0, 0);
        x.job(1, 1, 1, 0, 0);
        due("12: the first one", x.queued(0), 0);
        due("12: was 0", x.priority(1, 9), 0);
        due("12: is 9", x.jobInfo(1, 5), 9);
        due("12: ahead", x.queued(0), 1);
        due("12: was 9", x.priority(1, 0), 9);
        due("12: behind", x.queued(1), 1);
        due("12: 10", x.priority(1, 10), INVALID);
        due("12: -1", x.priority(1, -1), INVALID);
        due("12: negative job", x.priority(-1, 1), INVALID);
        due("12: missing", x.priority(2, 1), MISSING);
        due("12: missing and wrong", x.priority(2, 10), INVALID);
        due("12: stays 0", x.jobInfo(1, 5), 0);
        x.hold(1, 1);
        due("12: of a held one", x.priority(1, 4), 0);
    }

    private static void jobInfo() {
        PrintRoom x = filled();
        x.load(1, 3, 2);
        x.fill(1, 50);
        due("13: job", x.job(5, 4, 3, 2, BOTH + GATHER + STAPLE2), 0);
        x.priority(0, 6);
        int[] due = {5, 4, 3, 2, 11, 6, 0, 3, 12, 0, 0, 0, 0};
        for (int i = 0; i < due.length; i++) {
            due("13: " + i, x.jobInfo(0, i), due[i]);
        }
        x.run(12 + 3 + 5 + 1);
        due("13: came to the bin", x.jobInfo(0, 9), 4);
        due("13: stapled", x.jobInfo(0, 10), 1);
        due("13: the sheet", x.jobInfo(0, 11), 1);
        due("13: the copy", x.jobInfo(0, 12), 1);
        for (int wrong : new int[] {-1, 13, Integer.MIN_VALUE, Integer.MAX_VALUE}) {
            due("13: what", x.jobInfo(0, wrong), INVALID);
            due("13: what of a missing job", x.jobInfo(7, wrong), INVALID);
        }
        due("13: negative", x.jobInfo(-1, 0), INVALID);
        due("13: missing", x.jobInfo(1, 0), MISSING);
        PrintRoom y = filled();
        y.job(2, 1, 1, 0, GATHER + STAPLE1);
        y.run(5);
        due("13: all printed", y.jobInfo(0, 9), 2);
        due("13: no sheet", y.jobInfo(0, 11), MISSING);
        due("13: no copy", y.jobInfo(0, 12), MISSING);
        due("13: none stapled", y.jobInfo(0, 10), 0);
    }

    private static void jobInfoOrderOfSheets() {
        PrintRoom x = filled();
        x.set(0, 1);
        x.job(2, 3, 1, 0, 0);
        x.job(2, 3, 1, 0, GATHER);
        int[][] apart = {{0, 0}, {0, 1}, {0, 2}, {1, 0}, {1, 1}, {1, 2}};
        int[][] gathered = {{0, 0}, {1, 0}, {0, 1}, {1, 1}, {0, 2}, {1, 2}};
        for (int i = 0; i < 6; i++) {
            due("13: sheet by sheet", x.jobInfo(0, 11), apart[i][0]);
            due("13: its copy", x.jobInfo(0, 12), apart[i][1]);
            x.run(1);
        }
        due("13: finished", x.jobInfo(0, 11), MISSING);
        for (int i = 0; i < 6; i++) {
            due("13: set by set", x.jobInfo(1, 11), gathered[i][0]);
            due("13: its copy", x.jobInfo(1, 12), gathered[i][1]);
            x.run(1);
        }
    }

    private static void queued() {
        PrintRoom x = filled();
        for (int i = 0; i < 6; i++) {
            x.job(2, 2, 1, 0, 0);
        }
        x.priority(1, 3);
        x.priority(4, 3);
        x.priority(5, 9);
        x.priority(2, 1);
        x.hold(5, 1);
        x.hold(2, 1);
        x.hold(0, 1);
        queue("14", x, 1, 4, 3, 5, 2, 0);
        x.hold(5, 0);
        queue("14", x, 5, 1, 4, 3, 2, 0);
        x.run(1);
        x.priority(5, 0);
        queue("14", x, 5, 1, 4, 3, 2, 0);
        due("14: negative", x.queued(-1), INVALID);
        due("14: far", x.queued(Integer.MIN_VALUE), INVALID);
        due("14: far", x.queued(Integer.MAX_VALUE), MISSING);
    }

    private static void nextJobStays() {
        PrintRoom x = filled();
        x.job(2, 1, 1, 0, 0);
        x.job(2, 1, 1, 0, 0);
        x.run(1);
        x.priority(1, 9);
        queue("14", x, 0, 1);
        x.run(2);
        due("14: the begun one goes on", x.count(7), 0);
        x.hold(0, 1);
        queue("14", x, 1, 0);
        x.hold(0, 0);
        queue("14", x, 1, 0);
        x.priority(0, 9);
        queue("14", x, 0, 1);
        x.priority(0, 8);
        x.run(1);
        due("14: the other one is begun", x.count(7), 1);
        x.run(3);
        x.run(1);
        due("14: then the first one again", x.count(7), 0);
        x.job(1, 1, 1, 0, 0);
        x.priority(2, 9);
        queue("14", x, 0, 2);
        x.cancel(0);
        queue("14", x, 2);

        PrintRoom y = filled();
        y.job(2, 1, 1, 0, GATHER + STAPLE1);
        y.job(1, 1, 1, 0, 0);
        y.priority(1, 5);
        y.hold(1, 1);
        y.run(4);
        y.hold(1, 0);
        due("15: its stapling comes first", y.run(2), 0);
        due("15: stapled", y.count(6), 2);
        y.hold(0, 1);
        y.hold(0, 0);
        queue("14", y, 1, 0);
        due("15: a stapling does not keep it", y.run(2), 1);
        y.run(1);
        due("15: then it is stapled", y.count(6), 2);
        due("15: and not the other one", y.count(7), 0);
    }

    private static void runSheets() {
        PrintRoom x = filled();
        x.set(0, 3);
        x.set(1, 2);
        x.job(3, 1, 1, 0, BOTH);
        x.job(4, 1, 1, 0, BOTH);
        x.job(3, 1, 1, 0, 0);
        due("15: two sides", x.run(7), 0);
        due("15: the last tick", x.count(5), 1);
        due("15: done", x.run(1), 1);
        due("15: the last sheet of odd pages", x.run(3), 1);
        due("15: its sides", x.account(3), 3);
        due("15: even pages", x.run(16), 2);
        due("15: their sides", x.account(3), 7);
        due("15: one side", x.run(9), 3);
        due("15: sides", x.account(3), 10);
        due("15: finished", x.account(5), 3);

        PrintRoom y = new PrintRoom();
        y.set(0, 1);
        y.fill(3, 2);
        y.fill(1, 1);
        y.load(0, 1, 1);
        y.fill(0, 9);
        y.load(2, 2, 0);
        y.fill(2, 9);
        y.job(4, 1, 1, 0, 0);
        due("15: the lowest tray first", y.run(1), 1);
        due("15: of this paper", y.tray(1, 2), 0);
        due("15: then the next one", y.run(1), 1);
        due("15: one is left", y.tray(3, 2), 1);
        due("15: and then none", y.run(5), 1);
        due("15: no paper", y.stop(), 2);
        due("15: other papers stay", y.tray(0, 2) + y.tray(2, 2), 18);
    }

    private static void runStaples() {
        PrintRoom x = filled();
        x.job(2, 2, 1, 0, GATHER + STAPLE2);
        due("15: a set", x.run(4), 2);
        due("15: nothing under way", x.count(6), 0);
        due("15: not stapled before the last tick", x.run(2), 0);
        due("15: no staples yet", x.count(4), 100);
        x.run(1);
        due("15: staples", x.count(4), 98);
        due("15: sets", x.jobInfo(0, 10), 1);
        x.run(4 + 2);
        x.staples(1);
        x.run(1);
        due("15: all that there are", x.count(4), 0);
        due("15: used", x.account(4), 3);
        due("15: finished", x.account(5), 1);

        PrintRoom y = filled();
        y.set(2, 0);
        y.job(2, 2, 1, 0, GATHER + STAPLE1);
        y.job(1, 1, 1, 0, 0);
        y.run(4);
        due("15: the stapling is behind the last tick", y.account(4), 0);
        y.run(1);
        due("15: at once, and the next sheet", y.count(6), 1);
        due("15: stapled", y.account(4), 1);
        y.run(3);
        due("15: printed, not yet finished", y.count(0), 2);
        due("15: the tick goes on with the next job", y.run(2), 1);
        due("15: finished", y.account(5), 2);
    }

    private static void runSpoils() {
        PrintRoom x = filled();
        x.set(4, 3);
        x.set(0, 1);
        x.job(4, 1, 1, 0, 0);
        due("15: the third one is spoiled", x.run(3), 2);
        due("15: spoiled", x.account(2), 1);
        due("15: the same sheet", x.jobInfo(0, 11), 2);
        due("15: the sixth one would be", x.run(2), 2);
        due("15: taken", x.account(0), 5);
        due("15: sides of good ones", x.account(3), 4);
        x.job(1, 1, 1, 0, 0);
        due("15: the sixth one", x.run(1), 0);
        due("15: the seventh one", x.run(1), 1);
        x.set(4, 1);
        x.job(1, 1, 1, 0, 0);
        due("15: all", x.run(50), 0);
        due("15: spoiled ones", x.account(2), 52);
        x.set(4, 0);
        due("15: none", x.run(1), 1);
    }

    private static void runStops() {
        PrintRoom x = new PrintRoom();
        x.set(5, 1);
        x.set(0, 1);
        x.set(2, 0);
        x.staples(1);
        due("15: no job", x.run(3), 0);
        due("15: stopped", x.account(7), 3);
        x.job(2, 1, 1, 0, GATHER + STAPLE2);
        due("15: no paper", x.run(2), 0);
        x.fill(0, 2);
        due("15: a sheet, then the bin is full", x.run(4), 1);
        due("15: stopped", x.account(7), 8);
        x.emptyBin();
        due("15: a sheet, then no staples", x.run(5), 1);
        due("15: stopped", x.account(7), 12);
        due("15: no staples, though the bin is full and the paper out", x.stop(), 4);
        x.staples(2);
        due("15: stapled, then no job", x.run(1), 0);
        due("15: stopped all the same", x.account(7), 13);
        due("15: what was stapled is so", x.account(5), 1);
        due("15: staples", x.count(4), 0);
        due("15: all ticks", x.account(8), 15);
    }

    private static void runLimits() {
        PrintRoom x = new PrintRoom();
        due("15: 0", x.run(0), INVALID);
        due("15: -1", x.run(-1), INVALID);
        due("15: 5001", x.run(5001), INVALID);
        due("15: far", x.run(Integer.MAX_VALUE), INVALID);
        due("15: far", x.run(Integer.MIN_VALUE), INVALID);
        for (int i = 0; i < 199; i++) {
            x.run(5000);
        }
        due("15: 995000", x.account(8), 995000);
        due("15: 4999 more", x.run(4999), 0);
        due("15: too many", x.run(2), LIMIT);
        due("15: wrong", x.run(5001), INVALID);
        due("15: the last one", x.run(1), 0);
        due("15: no more", x.run(1), LIMIT);
        due("15: all", x.account(8), 1000000);
        due("15: stopped", x.account(7), 1000000);
        x.fill(0, 1);
        x.job(1, 1, 1, 0, 0);
        due("21: beyond them", x.ticksTo(0), 2);
    }

    private static void stop() {
        PrintRoom x = new PrintRoom();
        due("16: no job", x.stop(), 1);
        x.set(5, 2);
        x.job(2, 2, 1, 0, GATHER + STAPLE1);
        x.hold(0, 1);
        due("16: a held one", x.stop(), 1);
        x.hold(0, 0);
        due("16: no paper", x.stop(), 2);
        x.load(1, 1, 1);
        x.fill(1, 1);
        due("16: not this paper", x.stop(), 2);
        x.fill(3, 9);
        due("16: works", x.stop(), 0);
        due("16: nothing changes", x.count(6), 0);
        x.run(3);
        x.load(3, 0, 0);
        due("16: under way", x.stop(), 0);
        x.run(1);
        x.staples(0);
        due("16: no staples", x.stop(), 4);
        x.staples(1);
        due("16: with staples", x.stop(), 0);
        x.set(2, 0);
        due("16: behind a stapling of 0 ticks, no paper", x.stop(), 2);
        due("16: nothing is stapled", x.count(4), 1);
        x.fill(0, 1);
        due("16: behind it, a full bin", x.stop(), 3);
        x.set(5, 3);
        due("16: behind it, a sheet", x.stop(), 0);
        due("16: no tick", x.account(8), 4);
        due("16: no stop", x.account(7), 0);

        PrintRoom y = filled();
        y.set(2, 0);
        y.job(2, 1, 1, 0, GATHER + STAPLE1);
        y.run(4);
        due("16: behind it, no job", y.stop(), 1);
        due("16: it is still there", y.count(0), 1);
        y.job(1, 1, 1, 1, 0);
        y.set(5, 1);
        due("16: no paper rather than a full bin", y.stop(), 2);
    }

    private static void count() {
        PrintRoom x = filled();
        for (int i = 0; i < 3; i++) {
            x.job(2, 1, 1, 0, i == 0 ? GATHER + STAPLE1 : 0);
        }
        x.hold(1, 1);
        due("17: jobs", x.count(0), 3);
        due("17: held", x.count(1), 1);
        due("17: the next number", x.count(2), 3);
        x.run(3);
        due("17: bin", x.count(3), 1);
        due("17: ticks", x.count(5), 1);
        due("17: a sheet", x.count(6), 1);
        due("17: its job", x.count(7), 0);
        x.run(2);
        due("17: ticks", x.count(5), 2);
        due("17: a stapling", x.count(6), 2);
        due("17: its job", x.count(7), 0);
        x.run(2);
        due("17: staples", x.count(4), 99);
        due("17: none", x.count(5), 0);
        due("17: none", x.count(6), 0);
        due("17: none", x.count(7), MISSING);
        due("17: papers", x.count(14), 1);
        due("17: states", x.count(15), 4);
        write(x, "abc");
        due("17: the text", x.count(16), 3);
        for (int wrong : new int[] {-1, 17, Integer.MIN_VALUE, Integer.MAX_VALUE}) {
            due("17: wrong", x.count(wrong), INVALID);
        }
    }

    private static void account() {
        PrintRoom x = filled();
        x.set(4, 4);
        x.job(3, 1, 1, 0, BOTH + GATHER + STAPLE2);
        x.job(9, 1, 1, 0, 0);
        x.run(5 + 2 + 3 + 2 + 2 + 2 + 1);
        x.cancel(1);
        x.run(3);
        int[] due = {6, 4, 2, 5, 2, 1, 1, 3, 20};
        for (int i = 0; i < due.length; i++) {
            due("18: " + i, x.account(i), due[i]);
        }
        x.job(1, 1, 1, 0, 0);
        x.run(1);
        due("18: taken, the one under way too", x.account(0), 7);
        for (int wrong : new int[] {-1, 9, Integer.MIN_VALUE, Integer.MAX_VALUE}) {
            due("18: wrong", x.account(wrong), INVALID);
        }
    }

    private static void paper() {
        PrintRoom x = filled();
        x.load(1, 3, 2);
        x.fill(1, 50);
        x.set(0, 1);
        x.job(2, 1, 3, 2, 0);
        x.job(3, 1, 1, 0, 0);
        x.job(1, 1, 3, 2, 0);
        due("19: none", x.paper(0, 2), MISSING);
        x.run(1);
        due("19: size", x.paper(0, 0), 3);
        due("19: kind", x.paper(0, 1), 2);
        due("19: taken", x.paper(0, 2), 1);
        due("19: no other", x.paper(1, 0), MISSING);
        x.load(1, 0, 0);
        due("19: stays", x.paper(0, 2), 1);
        x.load(1, 3, 2);
        x.fill(1, 50);
        x.run(5);
        due("19: both jobs", x.paper(0, 2), 3);
        due("19: the second one", x.paper(1, 0), 1);
        due("19: kind", x.paper(1, 1), 0);
        due("19: taken", x.paper(1, 2), 3);
        due("19: papers", x.count(14), 2);
        due("19: not so many", x.paper(2, 0), MISSING);
        due("19: far", x.paper(Integer.MAX_VALUE, 0), MISSING);
        due("19: negative", x.paper(-1, 0), INVALID);
        due("19: what", x.paper(0, 3), INVALID);
        due("19: what", x.paper(9, -1), INVALID);
        allPapers();
    }

    private static void allPapers() {
        PrintRoom x = new PrintRoom();
        x.set(0, 1);
        for (int paper = 15; paper >= 0; paper--) {
            x.load(2, paper / 4, paper % 4);
            x.fill(2, 2);
            x.job(2, 1, paper / 4, paper % 4, 0);
            x.run(2);
        }
        due("19: all papers", x.count(14), 16);
        for (int i = 0; i < 16; i++) {
            due("19: size", x.paper(i, 0), (15 - i) / 4);
            due("19: kind", x.paper(i, 1), (15 - i) % 4);
            due("19: taken", x.paper(i, 2), 2);
        }
        due("19: no more", x.paper(16, 0), MISSING);
    }

    private static void lacking() {
        PrintRoom x = new PrintRoom();
        x.fill(0, 3);
        x.fill(2, 2);
        x.job(5, 2, 1, 0, BOTH);
        x.job(4, 1, 1, 0, 0);
        x.job(7, 1, 1, 1, 0);
        due("20: both trays", x.lacking(1, 0), 5);
        due("20: another kind", x.lacking(1, 1), 7);
        due("20: another size", x.lacking(0, 0), 0);
        x.hold(1, 1);
        due("20: held ones, too", x.lacking(1, 0), 5);
        x.run(1);
        due("20: one under way", x.lacking(1, 0), 5);
        due("20: of another paper", x.lacking(1, 1), 7);
        x.run(4);
        due("20: in the bin", x.lacking(1, 0), 5);
        x.run(1);
        x.hold(0, 1);
        due("20: one spoiled", x.lacking(1, 0), 6);
        x.fill(0, 5);
        due("20: one", x.lacking(1, 0), 1);
        x.fill(0, 100);
        due("20: none", x.lacking(1, 0), 0);
        for (int wrong : new int[] {-1, 4, Integer.MIN_VALUE, Integer.MAX_VALUE}) {
            due("20: size", x.lacking(wrong, 0), INVALID);
            due("20: kind", x.lacking(0, wrong), INVALID);
        }
        PrintRoom y = filled();
        y.job(2, 1, 1, 0, GATHER + STAPLE1);
        y.run(5);
        y.load(0, 1, 0);
        y.job(3, 1, 1, 0, 0);
        due("20: a stapling is no sheet", y.lacking(1, 0), 3);
    }

    private static void ticksTo() {
        PrintRoom x = filled();
        x.job(3, 2, 1, 0, BOTH);
        x.job(2, 2, 1, 0, GATHER + STAPLE1);
        due("21: the first", x.ticksTo(0), 14);
        due("21: the second", x.ticksTo(1), 28);
        x.priority(1, 1);
        due("21: ahead", x.ticksTo(1), 14);
        due("21: behind", x.ticksTo(0), 28);
        due("21: nothing changes", x.account(8), 0);
        x.set(2, 0);
        due("21: its stapling is in the next tick", x.ticksTo(1), 9);
        due("21: which goes on", x.ticksTo(0), 22);
        x.run(3);
        due("21: under way", x.ticksTo(1), 6);
        x.hold(1, 1);
        due("21: held", x.ticksTo(1), MISSING);
        due("21: no paper", x.job(1, 1, 2, 0, 0), 2);
        due("21: it stops", x.ticksTo(2), MISSING);
        due("21: negative", x.ticksTo(-1), INVALID);
        due("21: missing", x.ticksTo(3), MISSING);
        due("21: far", x.ticksTo(Integer.MIN_VALUE), INVALID);

        PrintRoom y = new PrintRoom();
        for (int i = 0; i < 4; i++) {
            y.fill(i, 500);
        }
        y.set(0, 20);
        y.set(5, 1000);
        y.job(50, 20, 1, 0, 0);
        due("21: 20000", y.ticksTo(0), 20000);
        y.set(4, 500);
        due("21: spoiled ones", y.ticksTo(0), MISSING);
        y.set(4, 0);
        y.run(19);
        due("21: one tick of a sheet is left", y.ticksTo(0), 19981);
        y.hold(0, 1);
        y.hold(0, 0);
        y.job(1, 1, 1, 0, 0);
        due("21: behind it: over the bin", y.ticksTo(1), MISSING);
        due("21: anew", y.ticksTo(0), 20000);

        foretellEdge();

        PrintRoom z = filled();
        z.set(0, 20);
        z.set(2, 0);
        z.job(2, 1, 1, 0, GATHER + STAPLE1);
        z.job(2, 1, 1, 0, 0);
        z.priority(0, 9);
        z.run(40);
        due("21: stapled, then it works", z.ticksTo(0), 1);
        z.cancel(1);
        due("21: stapled, then it stops", z.ticksTo(0), 1);
        z.staples(0);
        due("21: no staples", z.ticksTo(0), MISSING);
    }

    /** A tick of a sheet, 333 sheets of 60 ticks and one of 20 are 20001. */
    private static void foretellEdge() {
        PrintRoom x = filled();
        x.fill(0, 400);
        x.set(5, 1000);
        x.job(1, 1, 1, 0, 0);
        x.run(1);
        x.set(0, 20);
        x.set(1, 20);
        x.job(74, 9, 1, 0, BOTH);
        x.job(1, 1, 1, 0, 0);
        due("21: 19981", x.ticksTo(1), 19981);
        due("21: 20001", x.ticksTo(2), MISSING);
        x.run(1);
        due("21: 20000 of them", x.ticksTo(2), 20000);
    }

    private static void undo() {
        PrintRoom x = new PrintRoom();
        due("22: empty", x.undo(), IMPOSSIBLE);
        for (int i = 1; i <= 6; i++) {
            x.fill(0, 1);
            due("22: at most 4", x.count(15), Math.min(i, 4));
        }
        for (int i = 1; i <= 4; i++) {
            due("22: left", x.undo(), 4 - i);
            due("22: restored", x.tray(0, 2), 6 - i);
        }
        due("22: no more", x.undo(), IMPOSSIBLE);
        due("22: the oldest ones are dropped", x.tray(0, 2), 2);
        x.fill(0, 7);
        x.fill(0, 7);
        x.undo();
        x.fill(0, 1);
        x.undo();
        due("22: mixed", x.tray(0, 2), 9);
        due("22: one state", x.count(15), 1);
    }

    private static void undoRestoresAll() {
        PrintRoom x = filled();
        x.set(4, 5);
        x.job(3, 2, 1, 0, GATHER + STAPLE1);
        x.job(2, 2, 1, 0, 0);
        x.run(14);
        List<String> before = told(x);
        x.run(5);
        x.priority(0, 3);
        x.hold(0, 1);
        x.cancel(0);
        for (int i = 0; i < 4; i++) {
            x.undo();
        }
        same("22: the same", told(x), before);
        x.job(1, 1, 2, 3, 0);
        x.set(1, 9);
        x.staples(3);
        x.emptyBin();
        x.undo();
        x.undo();
        x.undo();
        x.undo();
        same("22: the same", told(x), before);
        x.load(1, 0, 3);
        x.fill(1, 4);
        rewrite(x, "1p 1c A5 film;1p 1c A4 plain;");
        x.enter();
        x.undo();
        x.undo();
        x.undo();
        same("22: the same", told(x), before);
        due("22: the text stays", x.count(16), 29);
        due("22: it goes on as before", x.run(8), 3);
        undoForgetsPapers();
    }

    private static void undoForgetsPapers() {
        PrintRoom x = filled();
        x.load(1, 0, 3);
        x.fill(1, 4);
        x.job(1, 1, 0, 3, 0);
        x.job(1, 1, 1, 0, 0);
        x.run(1);
        x.undo();
        due("22: no paper", x.paper(0, 0), MISSING);
        due("22: none of them", x.count(14), 0);
        x.priority(1, 1);
        x.run(1);
        x.hold(0, 1);
        due("22: another first paper", x.paper(0, 0), 1);
        due("22: its kind", x.paper(0, 1), 0);
        due("22: its sheets", x.paper(0, 2), 1);
        x.undo();
        x.undo();
        x.undo();
        x.run(3);
        due("22: the first one again", x.paper(0, 0), 0);
        due("22: its kind", x.paper(0, 1), 3);
        due("22: the second one", x.paper(1, 0), 1);
    }

    private static void type() {
        PrintRoom x = new PrintRoom();
        due("23: below", x.type(31), INVALID);
        due("23: above", x.type(127), INVALID);
        due("23: far", x.type(Integer.MIN_VALUE), INVALID);
        due("23: far", x.type(65536 + 65), INVALID);
        due("23: a blank", x.type(32), 1);
        due("23: a tilde", x.type(126), 2);
        for (int i = 3; i <= 100; i++) {
            due("23: length", x.type(49), i);
        }
        due("23: full", x.type(49), LIMIT);
        due("23: full and wrong", x.type(31), INVALID);
        due("23: length", x.count(16), 100);
        due("23: no change", x.count(15), 0);
    }

    private static void clearText() {
        PrintRoom x = new PrintRoom();
        due("24: empty", x.clearText(), 0);
        write(x, "1p 1c A4 plain;x");
        due("24: a fault", x.fault(0), 15);
        due("24: cleared", x.clearText(), 16);
        due("24: length", x.count(16), 0);
        due("24: no fault", x.fault(0), MISSING);
        due("24: no change", x.count(15), 0);
        due("24: from the beginning", x.type(50), 1);
    }

    private static void faultForm() {
        PrintRoom x = new PrintRoom();
        String[] right = {"", "1p 1c A5 plain;", "001p 050c A4 thick;", "200p 1c both A3 colored;", "9p 9c gather letter film;",
            "9p 9c both gather letter film;", "9p 9c gather staple1 A4 plain;", "9p 9c both gather staple2 A4 plain;",
            "1p 1c A5 plain;1p 1c A4 thick;1p 1c A3 colored;1p 1c letter film;"};
        for (String text : right) {
            fault(new PrintRoom(), text, MISSING, MISSING);
        }
        String[] wrong = {" ", ";", "1", "1p", "1p 1c A4 plain", "1p 1c A4 ;", "1p 1c plain;", "1p 1c;", "1p A4 plain;", "1c 1p A4 plain;",
            "0001p 1c A4 plain;", "1p 0001c A4 plain;", "p 1c A4 plain;", "1p c A4 plain;", "1 p 1c A4 plain;", "1p  1c A4 plain;",
            "1p1c A4 plain;", "1p 1c  A4 plain;", "1p 1cA4 plain;", "1p 1c A4  plain;", "1p 1c A4plain;", "1p 1c A4 plain ;",
            " 1p 1c A4 plain;", "-1p 1c A4 plain;", "+1p 1c A4 plain;", "1P 1c A4 plain;", "1p 1C A4 plain;", "1p 1c a4 plain;",
            "1p 1c A4 Plain;", "1p 1c A6 plain;", "1p 1c A4 clear;", "1p 1c A4 plainfilm;", "1p 1c A4 plain film;", "1p 1c A4 A5 plain;",
            "1p 1c both both A4 plain;", "9p 1c gather gather A4 plain;", "9p 1c gather both A4 plain;", "9p 1c staple1 gather A4 plain;",
            "9p 1c gather staple1 staple1 A4 plain;", "9p 1c gather staple1 staple2 A4 plain;", "9p 1c gather staple3 A4 plain;",
            "9p 1c gather staple A4 plain;", "1p 1c A4 both plain;", "1p 1c A4 plain both;", "1p 1c bothgather A4 plain;",
            "1p 1c boths A4 plain;", "/p 1c A4 plain;", ":p 1c A4 plain;"};
        for (String text : wrong) {
            fault(new PrintRoom(), text, 0, 1);
        }
        fault(x, "1p 1c A4 plain;;", 15, 1);
        fault(x, "1p 1c A4 plain; 1p 1c A4 plain;", 15, 1);
        fault(x, "1p 1c A4 plain;1p 1c A4 plain;1p 1c A4 plai;", 30, 1);
        due("25: what", x.fault(2), INVALID);
        due("25: what", x.fault(-1), INVALID);
        x.clearText();
        due("25: what of none", x.fault(Integer.MAX_VALUE), INVALID);
        due("25: none", x.fault(1), MISSING);
        due("25: no change", x.count(15), 0);
    }

    private static void faultReasons() {
        PrintRoom x = new PrintRoom();
        fault(x, "0p 1c A4 plain;", 0, 2);
        fault(x, "201p 1c A4 plain;", 0, 2);
        fault(x, "1p 000c A4 plain;", 0, 2);
        fault(x, "1p 51c A4 plain;", 0, 2);
        fault(x, "999p 1c A4 plain", 0, 1);
        fault(x, "0p 1c staple1 A4 film;", 0, 2);
        fault(x, "5p 1c staple1 A4 plain;", 0, 3);
        fault(x, "5p 1c gather staple2 A4 film;", 0, 3);
        fault(x, "2p 1c both gather staple2 A4 plain;", 0, 3);
        fault(x, "31p 1c gather staple2 A4 plain;", 0, 3);
        fault(x, "16p 1c gather staple2 A4 thick;", 0, 3);
        fault(x, "15p 1c gather staple2 A4 thick;31p 1c gather staple1 A3 plain;0p 1c A4 plain;", 31, 3);
        PrintRoom y = new PrintRoom();
        y.set(3, 31);
        fault(y, "31p 1c gather staple2 A4 plain;", MISSING, MISSING);
        for (int i = 0; i < 8; i++) {
            y.job(1, 1, 1, 0, 0);
        }
        fault(y, "1p 1c A4 plain;1p 1c A4 plain;", MISSING, MISSING);
        fault(y, "1p 1c A4 plain;1p 1c A4 plain;1p 1c A4 plain;", 30, 4);
        fault(y, "1p 1c A4 plain;1p 1c A4 plain;1p 1c staple1 A4 plain;", 30, 3);
        y.cancel(3);
        fault(y, "1p 1c A4 plain;1p 1c A4 plain;1p 1c A4 plain;", MISSING, MISSING);
        due("25: no text's refusal", y.refusal(), MISSING);
    }

    private static void enter() {
        PrintRoom x = new PrintRoom();
        due("26: empty", x.enter(), 0);
        due("26: a change all the same", x.count(15), 1);
        rewrite(x, "3p 2c both gather staple1 letter colored;200p 050c A5 thick;7p 1c gather staple2 A3 plain;");
        due("26: jobs", x.enter(), 3);
        due("26: one change", x.count(15), 2);
        due("26: the text stays", x.count(16), 90);
        jobIs(x, 0, 3, 2, 3, 2, BOTH + GATHER + STAPLE1);
        jobIs(x, 1, 200, 50, 0, 1, 0);
        jobIs(x, 2, 7, 1, 2, 0, GATHER + STAPLE2);
        due("26: priority", x.jobInfo(1, 5), 0);
        due("26: again", x.enter(), 3);
        due("26: the next number", x.count(2), 6);
        x.enter();
        due("26: no room", x.enter(), IMPOSSIBLE);
        due("26: not even for one", x.count(0), 9);
        x.undo();
        due("26: undone at once", x.count(0), 6);
        rewrite(x, "1p 1c A4 film;1p 1c A4 film");
        due("26: a fault", x.enter(), IMPOSSIBLE);
        due("26: nothing of it", x.count(0), 6);
        x.type(';');
        due("26: right", x.enter(), 2);
        jobIs(x, 7, 1, 1, 1, 3, 0);
    }

    private static void jobIs(PrintRoom x, int job, int... due) {
        for (int i = 0; i < due.length; i++) {
            due("26: job " + job + ", " + i, x.jobInfo(job, i), due[i]);
        }
    }

    private static void errorsChangeNothing() {
        PrintRoom x = filled();
        x.fill(1, 500);
        x.job(5, 2, 1, 0, GATHER);
        x.run(3);
        rewrite(x, "1p 1c staple1 A4 plain;");
        List<String> before = told(x);
        int states = x.count(15);
        x.fill(1, 1);
        x.fill(0, 0);
        x.load(0, 4, 0);
        x.staples(5001);
        x.set(0, 0);
        x.job(1, 1, 1, 0, STAPLE1);
        x.job(1, 1, 1, 4, 0);
        x.hold(0, 2);
        x.hold(1, 1);
        x.cancel(-1);
        x.cancel(1);
        x.priority(0, 10);
        x.priority(1, 1);
        x.run(0);
        x.enter();
        x.type(127);
        same("22: the same", told(x), before);
        due("26: no states", x.count(15), states);
        due("26: the text", x.count(16), 23);
        due("26: what refusal tells", x.refusal(), 1);
    }
}
