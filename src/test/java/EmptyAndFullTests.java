import java.util.List;

/** The empty and the full machine: no job and the most jobs, trays, bin, staples, text, history, ticks and papers. */
public final class EmptyAndFullTests extends RoomChecks {
    private EmptyAndFullTests() {
    }

    public static void main(String[] args) {
        noJob();
        mostJobs();
        heldJobsCountAmongTheMost();
        roomAgain();
        newJobIsNew();
        mostJobsByText();
        numbersOfJobs();
        emptyTray();
        fullTray();
        trayRunsOut();
        trayFollowsTray();
        emptyBin();
        leastBin();
        greatestBin();
        binAboveItsSetting();
        noStaples();
        mostStaples();
        emptyText();
        fullText();
        fullTextOfJobs();
        noChange();
        mostChanges();
        eachChangeIsKept();
        nothingElseIsKept();
        noTicks();
        mostTicks();
        noPapers();
        mostPapers();
        CHECKS.end("EmptyAndFullTests");
    }

    private static void noJob() {
        PrintRoom x = filled();
        due("no job: in the queue", x.count(0), 0);
        due("no job: held", x.count(1), 0);
        due("no job: the first number", x.count(2), 0);
        due("no job: next one", x.queued(0), MISSING);
        due("no job: hold", x.hold(0, 1), MISSING);
        due("no job: cancel", x.cancel(0), MISSING);
        due("no job: priority", x.priority(0, 1), MISSING);
        due("no job: jobInfo", x.jobInfo(0, 0), MISSING);
        due("no job: ticksTo", x.ticksTo(0), MISSING);
        due("no job: lacking", x.lacking(A4, PLAIN), 0);
        due("no job: stop", x.stop(), 1);
        due("no job: run", x.run(7), 0);
        due("no job: all of them stopped", x.account(7), 7);
        due("no job: nothing is taken", x.tray(0, 2), 100);
    }

    private static PrintRoom withJobs(int jobs) {
        PrintRoom x = filled();
        for (int i = 0; i < jobs; i++) {
            due("most jobs: job " + i, x.job(1, 1, A4, PLAIN, 0), i);
        }
        return x;
    }

    private static void mostJobs() {
        PrintRoom x = withJobs(9);
        due("most jobs: the tenth", x.job(1, 1, A4, PLAIN, 0), 9);
        due("most jobs: the eleventh", x.job(1, 1, A4, PLAIN, 0), LIMIT);
        due("most jobs: ten", x.count(0), 10);
        queue("most jobs", x, 0, 1, 2, 3, 4, 5, 6, 7, 8, 9);
        due("most jobs: the last one is found", x.priority(9, 9), 0);
        queue("most jobs: and is ahead", x, 9, 0, 1, 2, 3, 4, 5, 6, 7, 8);
        due("most jobs: ticks to the last one", x.ticksTo(8), 20);
        due("most jobs: all are printed", x.run(20), 10);
        due("most jobs: all are finished", x.account(5), 10);
        queue("most jobs: none is left", x);
    }

    private static void heldJobsCountAmongTheMost() {
        PrintRoom x = withJobs(10);
        for (int i = 0; i < 10; i++) {
            x.hold(i, 1);
        }
        due("held jobs: ten", x.count(1), 10);
        due("held jobs: in the queue all the same", x.job(1, 1, A4, PLAIN, 0), LIMIT);
        due("held jobs: no next one", x.stop(), 1);
        write(x, "1p 1c A4 plain;1p 1c A4 plain;");
        due("held jobs: no room for a text's one", x.fault(0), 0);
        x.cancel(9);
        due("held jobs: room for one of a text", x.fault(0), 15);
        due("held jobs: not for both", x.enter(), IMPOSSIBLE);
        due("held jobs: room for one", x.job(1, 1, A4, PLAIN, 0), 10);
        queue("held jobs", x, 10, 0, 1, 2, 3, 4, 5, 6, 7, 8);
    }

    private static void roomAgain() {
        PrintRoom x = withJobs(10);
        due("room again: full", x.job(1, 1, A4, PLAIN, 0), LIMIT);
        x.cancel(0);
        due("room again: one is cancelled", x.job(1, 1, A4, PLAIN, 0), 10);
        due("room again: only one", x.job(1, 1, A4, PLAIN, 0), LIMIT);
        x.run(1);
        due("room again: one is printed", x.job(1, 1, A4, PLAIN, 0), LIMIT);
        x.run(1);
        due("room again: one is finished", x.job(1, 1, A4, PLAIN, 0), 11);
        due("room again: full again", x.job(1, 1, A4, PLAIN, 0), LIMIT);
        x.undo();
        due("room again: behind undo", x.job(1, 1, A4, PLAIN, 0), 11);
        queue("room again", x, 2, 3, 4, 5, 6, 7, 8, 9, 10, 11);
    }

    /** What a job was that has left does not come back with a new one in its place. */
    private static void newJobIsNew() {
        for (boolean finished : new boolean[] {true, false}) {
            PrintRoom x = filled();
            x.set(SIDE, 1);
            x.job(4, 2, A4, PLAIN, BOTH + GATHER + STAPLE1);
            x.priority(0, 9);
            x.run(12);
            if (finished) {
                x.run(50);
            } else {
                x.hold(0, 1);
                x.cancel(0);
            }
            due("new job: the old one has left", x.count(0), 0);
            due("new job: its number", x.job(5, 3, A5, FILM, 0), 1);
            write(x, "6p 4c A3 colored;");
            due("new job: one of a text", x.enter(), 1);
            int[][] due = {{5, 3, A5, FILM, 0, 0, 0, 5, 15, 0, 0, 0, 0}, {6, 4, A3, COLORED, 0, 0, 0, 6, 24, 0, 0, 0, 0}};
            for (int what = 0; what < 13; what++) {
                due("new job: jobInfo " + what, x.jobInfo(1, what), due[0][what]);
                due("new job of a text: jobInfo " + what, x.jobInfo(2, what), due[1][what]);
            }
        }
    }

    private static void mostJobsByText() {
        PrintRoom x = withJobs(7);
        write(x, "1p 1c A4 film;1p 1c A4 film;1p 1c A4 film;1p 1c A4 film;");
        due("text at the most jobs: the fourth one", x.fault(0), 42);
        due("text at the most jobs: no room for it", x.fault(1), 4);
        due("text at the most jobs: none of them", x.enter(), IMPOSSIBLE);
        due("text at the most jobs: still seven", x.count(0), 7);
        rewrite(x, "1p 1c A4 film;1p 1c A4 film;1p 1c A4 film;");
        due("text at the most jobs: three find room", x.fault(0), MISSING);
        due("text at the most jobs: three are brought", x.enter(), 3);
        due("text at the most jobs: ten", x.count(0), 10);
        due("text at the most jobs: now the first one has none", x.fault(0), 0);
        due("text at the most jobs: for this reason", x.fault(1), 4);
        due("text at the most jobs: refused", x.enter(), IMPOSSIBLE);
        x.clearText();
        due("text at the most jobs: an empty text has no fault", x.fault(0), MISSING);
        due("text at the most jobs: it brings none", x.enter(), 0);
    }

    private static void numbersOfJobs() {
        PrintRoom x = filled();
        due("numbers: 0", x.job(1, 1, A4, PLAIN, 0), 0);
        due("numbers: wrong", x.job(0, 1, A4, PLAIN, 0), INVALID);
        due("numbers: refused", x.job(1, 1, A4, PLAIN, STAPLE1), IMPOSSIBLE);
        due("numbers: these get none", x.count(2), 1);
        write(x, "1p 1c A4 plain;1p 1c A4 plain;");
        x.enter();
        due("numbers: two by a text", x.count(2), 3);
        queue("numbers: the text's ones", x, 0, 1, 2);
        x.run(2);
        x.cancel(1);
        due("numbers: behind a finished and a cancelled one", x.job(1, 1, A4, PLAIN, 0), 3);
        x.cancel(3);
        due("numbers: not the cancelled one's", x.job(1, 1, A4, PLAIN, 0), 4);
        x.undo();
        x.undo();
        x.undo();
        due("numbers: but behind undo", x.job(1, 1, A4, PLAIN, 0), 3);
    }

    private static void emptyTray() {
        PrintRoom x = new PrintRoom();
        x.job(1, 1, A4, PLAIN, 0);
        for (int tray = 0; tray < 4; tray++) {
            due("empty tray: at first", x.tray(tray, 2), 0);
            due("empty tray: of its paper in all", x.tray(tray, 3), 0);
            due("empty tray: nothing to take out", x.load(tray, A4, PLAIN), 0);
        }
        due("empty tray: no paper", x.stop(), 2);
        due("empty tray: nothing comes", x.run(3), 0);
        due("empty tray: stops", x.account(7), 3);
        due("empty tray: no paper is told", x.count(14), 0);
        x.fill(3, 1);
        due("empty tray: a sheet", x.stop(), 0);
    }

    private static void fullTray() {
        PrintRoom x = new PrintRoom();
        due("full tray: 499", x.fill(2, 499), 499);
        due("full tray: two too many", x.fill(2, 2), LIMIT);
        due("full tray: the last one", x.fill(2, 1), 500);
        due("full tray: one too many", x.fill(2, 1), LIMIT);
        due("full tray: 500 too many", x.fill(2, 500), LIMIT);
        due("full tray: it stays", x.tray(2, 2), 500);
        due("full tray: another one is empty", x.fill(1, 500), 500);
        due("full tray: both", x.tray(1, 3), 1000);
        due("full tray: all taken out", x.load(2, A4, PLAIN), 500);
        due("full tray: filled anew", x.fill(2, 500), 500);
        x.fill(0, 500);
        x.fill(3, 500);
        due("full tray: all of them", x.tray(0, 3), 2000);
    }

    private static void trayRunsOut() {
        PrintRoom x = new PrintRoom();
        x.set(SIDE, 1);
        x.set(BIN, 1000);
        x.fill(1, 500);
        x.job(200, 3, A4, PLAIN, 0);
        due("tray runs out: 499 sheets", x.run(499), 499);
        due("tray runs out: the last one", x.tray(1, 2), 1);
        due("tray runs out: works still", x.stop(), 0);
        due("tray runs out: it is taken", x.run(1), 1);
        due("tray runs out: empty", x.tray(1, 2), 0);
        due("tray runs out: stops", x.stop(), 2);
        due("tray runs out: 100 lack", x.lacking(A4, PLAIN), 100);
        due("tray runs out: no more", x.run(10), 0);
        due("tray runs out: never less than none", x.tray(1, 2), 0);
        due("tray runs out: stopped", x.account(7), 10);
    }

    private static void trayFollowsTray() {
        PrintRoom x = new PrintRoom();
        x.set(SIDE, 1);
        x.load(0, A4, THICK);
        x.fill(0, 9);
        x.fill(2, 1);
        x.fill(3, 2);
        x.job(9, 1, A4, PLAIN, 0);
        x.run(1);
        due("tray follows: neither another paper nor an empty one", x.tray(2, 2), 0);
        due("tray follows: the higher one waits", x.tray(3, 2), 2);
        x.run(1);
        due("tray follows: it follows", x.tray(3, 2), 1);
        x.fill(1, 1);
        x.run(1);
        due("tray follows: the lowest one again", x.tray(1, 2), 0);
        due("tray follows: not the higher one", x.tray(3, 2), 1);
        x.load(0, A5, PLAIN);
        x.fill(0, 9);
        due("tray follows: the last one", x.run(5), 1);
        due("tray follows: all of this paper", x.tray(3, 3), 0);
        due("tray follows: another size stays", x.tray(0, 2), 9);
        due("tray follows: stops", x.stop(), 2);
    }

    private static void emptyBin() {
        PrintRoom x = filled();
        due("empty bin: at first", x.count(3), 0);
        due("empty bin: none", x.emptyBin(), 0);
        x.job(2, 1, A4, PLAIN, 0);
        x.run(1);
        due("empty bin: a sheet under way is not in it", x.emptyBin(), 0);
        x.run(1);
        due("empty bin: now it is", x.emptyBin(), 1);
        due("empty bin: once", x.emptyBin(), 0);
        due("empty bin: what came stays counted", x.jobInfo(0, 9), 1);
        x.run(2);
        due("empty bin: the job is finished all the same", x.account(5), 1);
        due("empty bin: only the last sheet", x.count(3), 1);
    }

    private static void leastBin() {
        PrintRoom x = fullOfPaper();
        x.set(BIN, 1);
        x.job(3, 1, A4, PLAIN, 0);
        due("least bin: empty", x.stop(), 0);
        due("least bin: one sheet", x.run(9), 1);
        due("least bin: full", x.stop(), 3);
        due("least bin: stopped", x.account(7), 8);
        due("least bin: no sheet is taken for it", x.account(0), 1);
        x.emptyBin();
        due("least bin: one more", x.run(9), 1);
        x.set(BIN, 2);
        due("least bin: there is room for one", x.stop(), 0);
        due("least bin: the last one", x.run(9), 1);
        due("least bin: full, and no job: no job", x.stop(), 1);
    }

    private static void greatestBin() {
        PrintRoom x = fullOfPaper();
        x.job(200, 6, A4, PLAIN, 0);
        due("greatest bin: 999", x.run(999), 999);
        due("greatest bin: works", x.stop(), 0);
        due("greatest bin: the last one", x.run(5), 1);
        due("greatest bin: full", x.stop(), 3);
        due("greatest bin: it has", x.count(3), 1000);
        due("greatest bin: they are taken out", x.emptyBin(), 1000);
        due("greatest bin: works again", x.run(5), 5);
    }

    private static void binAboveItsSetting() {
        PrintRoom x = fullOfPaper();
        x.job(20, 1, A4, PLAIN, 0);
        x.run(5);
        x.set(BIN, 6);
        due("bin above its setting: one below it", x.stop(), 0);
        x.set(BIN, 5);
        due("bin above its setting: as many", x.stop(), 3);
        x.set(BIN, 4);
        due("bin above its setting: more", x.stop(), 3);
        due("bin above its setting: nothing comes", x.run(2), 0);
        x.set(BIN, 6);
        x.set(SIDE, 5);
        x.run(1);
        x.set(BIN, 1);
        due("bin above its setting: what is under way comes", x.run(20), 1);
        due("bin above its setting: more than the setting", x.count(3), 6);
    }

    private static void noStaples() {
        PrintRoom x = filled();
        x.set(SIDE, 1);
        due("no staples: taken out", x.staples(0), 100);
        x.job(2, 2, A4, PLAIN, GATHER + STAPLE1);
        due("no staples: sheets need none", x.stop(), 0);
        due("no staples: a set is printed", x.run(9), 2);
        due("no staples: it stops", x.stop(), 4);
        due("no staples: stopped", x.account(7), 7);
        due("no staples: never finished", x.ticksTo(0), MISSING);
        x.staples(1);
        due("no staples: one is enough for one", x.stop(), 0);
        x.run(3);
        due("no staples: used", x.account(4), 1);
        due("no staples: none again", x.count(4), 0);
        due("no staples: the next set", x.run(9), 2);
        due("no staples: it stops again", x.stop(), 4);
        x.cancel(0);

        x.job(2, 1, A4, PLAIN, GATHER + STAPLE2);
        x.run(2);
        x.staples(1);
        due("no staples: one is too few for two", x.stop(), 4);
        x.staples(2);
        due("no staples: two are enough", x.stop(), 0);
        due("no staples: so many ticks", x.ticksTo(1), 3);
    }

    private static void mostStaples() {
        PrintRoom x = filled();
        due("most staples: in", x.staples(5000), 100);
        due("most staples: too many", x.staples(5001), INVALID);
        due("most staples: they stay", x.count(4), 5000);
        due("most staples: as many again", x.staples(5000), 5000);
        x.job(2, 1, A4, PLAIN, GATHER + STAPLE2);
        x.run(7);
        due("most staples: two are used", x.count(4), 4998);
    }

    private static void emptyText() {
        PrintRoom x = filled();
        due("empty text: length", x.count(16), 0);
        due("empty text: no index", x.fault(0), MISSING);
        due("empty text: no reason", x.fault(1), MISSING);
        due("empty text: cleared", x.clearText(), 0);
        due("empty text: brings none", x.enter(), 0);
        due("empty text: no job", x.count(0), 0);
        due("empty text: a change that returned no error", x.count(15), 2);
        write(x, "x");
        x.clearText();
        due("empty text: empty again", x.fault(0), MISSING);
        due("empty text: brings none again", x.enter(), 0);
    }

    private static void fullText() {
        PrintRoom x = new PrintRoom();
        for (int length = 1; length <= 99; length++) {
            due("full text: length", x.type('1'), length);
        }
        due("full text: the last one", x.type('~'), 100);
        due("full text: one too many", x.type('1'), LIMIT);
        due("full text: still one too many", x.type(' '), LIMIT);
        due("full text: length", x.count(16), 100);
        due("full text: a fault at its first character", x.fault(0), 0);
        due("full text: cleared", x.clearText(), 100);
        due("full text: room again", x.type('1'), 1);
    }

    private static void fullTextOfJobs() {
        String fourteen = "1p 1c A5 film;";
        String fifteen = "1p 1c A4 plain;";
        PrintRoom x = new PrintRoom();
        due("full text of jobs: 100", write(x, fourteen.repeat(5) + fifteen.repeat(2)), 100);
        due("full text of jobs: no fault", x.fault(0), MISSING);
        due("full text of jobs: no reason", x.fault(1), MISSING);
        due("full text of jobs: seven", x.enter(), 7);
        due("full text of jobs: the last one's size", x.jobInfo(6, 2), A4);
        due("full text of jobs: the last one's kind", x.jobInfo(6, 3), PLAIN);
        due("full text of jobs: the text stays", x.count(16), 100);

        PrintRoom y = new PrintRoom();
        write(y, fifteen.repeat(6) + "1p 1c A5 film;");
        due("full text of jobs: the last \";\" finds no room", y.count(16), 100);
        due("full text of jobs: so it is missing", y.fault(0), 90);
        due("full text of jobs: not of this form", y.fault(1), 1);
        due("full text of jobs: none is brought", y.enter(), IMPOSSIBLE);

        PrintRoom z = new PrintRoom();
        write(z, fourteen.repeat(6) + fifteen + "1");
        due("full text of jobs: a fault at the last character", z.fault(0), 99);
        due("full text of jobs: its reason", z.fault(1), 1);
    }

    private static void noChange() {
        PrintRoom x = new PrintRoom();
        due("no change: no state", x.count(15), 0);
        due("no change: undo", x.undo(), IMPOSSIBLE);
        due("no change: still none", x.count(15), 0);
        x.fill(0, 1);
        due("no change: one", x.count(15), 1);
        due("no change: taken back", x.undo(), 0);
        due("no change: none is left", x.undo(), IMPOSSIBLE);
        due("no change: as made", x.tray(0, 2), 0);
    }

    private static void mostChanges() {
        PrintRoom x = new PrintRoom();
        for (int i = 1; i <= 4; i++) {
            x.fill(0, 1);
            due("most changes: states", x.count(15), i);
        }
        PrintRoom y = new PrintRoom();
        for (int i = 1; i <= 5; i++) {
            y.fill(0, 1);
        }
        due("most changes: the oldest of five is dropped", y.count(15), 4);
        for (int left = 3; left >= 0; left--) {
            due("most changes: left of four", x.undo(), left);
            due("most changes: restored", x.tray(0, 2), left);
            due("most changes: left of five", y.undo(), left);
            due("most changes: restored", y.tray(0, 2), left + 1);
        }
        due("most changes: all four are taken back", x.undo(), IMPOSSIBLE);
        due("most changes: to the beginning", x.tray(0, 2), 0);
        due("most changes: four of five are", y.undo(), IMPOSSIBLE);
        due("most changes: to the first one", y.tray(0, 2), 1);
        for (int i = 0; i < 20; i++) {
            x.fill(1, 1);
        }
        due("most changes: twenty", x.count(15), 4);
        for (int i = 0; i < 4; i++) {
            x.undo();
        }
        due("most changes: the latest four are taken back", x.tray(1, 2), 16);
        x.fill(1, 3);
        due("most changes: the history goes on", x.undo(), 0);
        due("most changes: from there", x.tray(1, 2), 16);
    }

    private static void eachChangeIsKept() {
        kept("fill", x -> x.fill(0, 7));
        kept("load", x -> x.load(0, A5, FILM));
        kept("load of the same paper", x -> x.load(3, A4, PLAIN));
        kept("job", x -> x.job(1, 1, A4, PLAIN, 0));
        kept("hold", x -> x.hold(0, 1));
        kept("hold of none", x -> x.hold(0, 0));
        kept("cancel", x -> x.cancel(0));
        kept("priority", x -> x.priority(1, 9));
        kept("priority as it is", x -> x.priority(1, 0));
        kept("staples", x -> x.staples(1));
        kept("staples as they are", x -> x.staples(99));
        for (int what = 0; what < 6; what++) {
            int setting = what;
            kept("set", x -> x.set(setting, 7));
        }
        kept("set as it is", x -> x.set(SIDE, 2));
        kept("emptyBin", x -> x.emptyBin());
        kept("run of a tick", x -> x.run(1));
        kept("run", x -> x.run(50));
        kept("enter", x -> x.enter());
    }

    private static void kept(String name, Call call) {
        PrintRoom x = busy();
        List<String> before = told(x);
        List<String> besides = toldBesides(x);
        int states = x.count(15);
        CHECKS.holds("kept: " + name + " returns no error", call.on(x) >= 0);
        due("kept: " + name + " is one state", x.count(15), states + 1);
        due("kept: " + name + " is taken back", x.undo(), states);
        same("kept: " + name, told(x), before);
        same("kept: " + name, toldBesides(x), besides);
        PrintRoom z = busy();
        call.on(z);
        z.undo();
        z.run(40);
        PrintRoom twin = busy();
        twin.run(40);
        same("kept: " + name + ", and it goes on as ever", told(z), told(twin));
        keptInFullHistory(name, call);
    }

    private static void keptInFullHistory(String name, Call call) {
        PrintRoom x = busy();
        for (int staples = 50; staples < 54; staples++) {
            x.staples(staples);
        }
        call.on(x);
        due("kept: " + name + ", the fifth state: the oldest one is dropped", x.count(15), 4);
        due("kept: " + name + ", the latest one", x.undo(), 3);
        for (int left = 2; left >= 0; left--) {
            due("kept: " + name + ", the one ahead of it", x.count(4), 51 + left);
            due("kept: " + name + ", left", x.undo(), left);
        }
        due("kept: " + name + ", the oldest one that is left", x.count(4), 50);
        due("kept: " + name + ", no more", x.undo(), IMPOSSIBLE);
    }

    private static void nothingElseIsKept() {
        PrintRoom x = busy();
        int states = x.count(15);
        List<String> before = told(x);
        toldBesides(x);
        x.type('x');
        x.clearText();
        x.job(1, 1, A4, PLAIN, STAPLE1);
        due("not kept: questions, the text and what is refused", x.count(15), states);
        same("not kept: they change nothing", told(x), before);
        x.undo();
        due("not kept: undo itself", x.count(15), states - 1);
        due("not kept: undo leaves the text", x.count(16), 0);
        due("not kept: undo leaves what refusal tells", x.refusal(), 1);
    }

    private static void noTicks() {
        PrintRoom x = filled();
        due("no ticks: none yet", x.account(8), 0);
        due("no ticks: 0 is out of range", x.run(0), INVALID);
        due("no ticks: still none", x.account(8), 0);
        due("no ticks: the least", x.run(1), 0);
        due("no ticks: one", x.account(8), 1);
    }

    private static void mostTicks() {
        PrintRoom x = new PrintRoom();
        for (int i = 0; i < 199; i++) {
            x.run(5000);
        }
        x.run(1);
        due("most ticks: 995001", x.account(8), 995001);
        due("most ticks: one too many", x.run(5000), LIMIT);
        due("most ticks: exactly", x.run(4999), 0);
        due("most ticks: 1000000", x.account(8), 1000000);
        due("most ticks: no more", x.run(1), LIMIT);
        due("most ticks: none at all", x.run(5000), LIMIT);
        due("most ticks: they stay", x.account(8), 1000000);
        x.undo();
        due("most ticks: behind undo", x.run(4999), 0);
    }

    private static void noPapers() {
        PrintRoom x = filled();
        due("no papers: none", x.count(14), 0);
        due("no papers: not the first one", x.paper(0, 0), MISSING);
        x.job(1, 1, A4, PLAIN, 0);
        due("no papers: none is taken yet", x.count(14), 0);
        x.run(1);
        due("no papers: one under way is taken", x.count(14), 1);
        due("no papers: its sheets", x.paper(0, 2), 1);
    }

    private static void mostPapers() {
        PrintRoom x = new PrintRoom();
        x.set(SIDE, 1);
        for (int i = 0; i < 16; i++) {
            int paper = i * 5 % 16;
            x.load(3, paper / 4, paper % 4);
            x.fill(3, 3);
            x.job(1, 1 + i % 3, paper / 4, paper % 4, 0);
            x.run(3);
        }
        due("most papers: all", x.count(14), 16);
        for (int i = 0; i < 16; i++) {
            due("most papers: size of " + i, x.paper(i, 0), i * 5 % 16 / 4);
            due("most papers: kind of " + i, x.paper(i, 1), i * 5 % 16 % 4);
            due("most papers: sheets of " + i, x.paper(i, 2), 1 + i % 3);
        }
        due("most papers: no more", x.paper(16, 0), MISSING);
        x.load(0, A4, PLAIN);
        x.fill(0, 5);
        x.job(5, 1, A4, PLAIN, 0);
        x.run(5);
        due("most papers: one again is no other one", x.count(14), 16);
        due("most papers: it is in its place", x.paper(4, 2), 5 + 1 + 4 % 3);
    }
}
