/** The sentences of the document's terms, and of the promises that rest on them, at their boundaries: jobs, machine, accounts. */
public final class SentenceTests extends RoomChecks {
    private SentenceTests() {
    }

    public static void main(String[] args) {
        sheetsOfSet();
        sheetsInAll();
        gatheredSheetsComeSetAfterSet();
        otherSheetsComeSheetAfterSheet();
        oneCopyOrOneSheet();
        noNextSheetWhenAllArePrinted();
        sidesOfSheets();
        firstReasonThatApplies();
        limitOfSheets();
        halfTheLimitForThickPaper();
        laterLimitDoesNotConcernTheQueue();
        greatestPriorityThenLeastNumber();
        begunJobStaysUntilFinished();
        begunJobStaysUntilHeld();
        begunJobStaysUntilCancelled();
        begunJobStaysWhenOthersGo();
        staplingKeepsNoJob();
        heldOnesBehindAllOthers();
        ticksOfSheet();
        ticksOfStapling();
        whatIsUnderWayTakesItsTime();
        staplingOfNoTicks();
        staplingsOfNoTicksInOneTick();
        reasonsOfStopInOrder();
        reasonsForStapling();
        stopsInTheMiddleOfRun();
        sheetIsTakenWhenBegun();
        spoiledSheetIsBegunAgain();
        noSpoilingAndEverySheet();
        greatestSpoiling();
        spoilingCountsAllFinishedSheets();
        heldSheetIsNotFinished();
        staplesAtTheEndOfStapling();
        finishedWithLastSheetOrStapling();
        heldStaplingIsGivenUp();
        cancelledJob();
        otherJobsWorkGoesOn();
        accountsInEachTick();
        lackingSheets();
        foretoldTicks();
        undoRestoresWhatIsHidden();
        CHECKS.end("SentenceTests");
    }

    /** A machine with one job, 0, on A4 plain, of which there are 100 sheets, and a tick for a side. */
    private static PrintRoom printing(int pages, int copies, int how) {
        PrintRoom x = filled();
        x.set(SIDE, 1);
        due("the job", x.job(pages, copies, A4, PLAIN, how), 0);
        return x;
    }

    private static void sheetsOfSet() {
        int[] pages = {1, 2, 3, 4, 5, 198, 199, 200};
        int[] halves = {1, 1, 2, 2, 3, 99, 100, 100};
        for (int i = 0; i < pages.length; i++) {
            PrintRoom x = new PrintRoom();
            x.job(pages[i], 1, A4, PLAIN, 0);
            x.job(pages[i], 1, A4, PLAIN, BOTH);
            due("a set: as many as pages, " + pages[i], x.jobInfo(0, 7), pages[i]);
            due("a set: half of that, rounded up, " + pages[i], x.jobInfo(1, 7), halves[i]);
        }
    }

    private static void sheetsInAll() {
        PrintRoom x = new PrintRoom();
        x.job(1, 1, A4, PLAIN, 0);
        x.job(200, 50, A4, PLAIN, 0);
        x.job(199, 50, A4, PLAIN, BOTH);
        x.job(1, 50, A4, PLAIN, BOTH);
        due("sheets in all: the least", x.jobInfo(0, 8), 1);
        due("sheets in all: the most", x.jobInfo(1, 8), 10000);
        due("sheets in all: set sheets times copies", x.jobInfo(2, 8), 5000);
        due("sheets in all: of one sheet", x.jobInfo(3, 8), 50);
    }

    private static void sheets(String name, PrintRoom x, int[]... sheetsAndCopies) {
        for (int[] due : sheetsAndCopies) {
            due(name + ": the sheet", x.jobInfo(0, 11), due[0]);
            due(name + ": its copy", x.jobInfo(0, 12), due[1]);
            x.run(1);
        }
        due(name + ": finished", x.jobInfo(0, 11), MISSING);
        due(name + ": no job", x.count(0), 0);
    }

    private static void gatheredSheetsComeSetAfterSet() {
        sheets("set after set", printing(3, 2, GATHER),
            new int[][] {{0, 0}, {1, 0}, {2, 0}, {0, 1}, {1, 1}, {2, 1}});
        sheets("set after set", printing(2, 3, GATHER),
            new int[][] {{0, 0}, {1, 0}, {0, 1}, {1, 1}, {0, 2}, {1, 2}});
    }

    private static void otherSheetsComeSheetAfterSheet() {
        sheets("sheet after sheet", printing(3, 2, 0),
            new int[][] {{0, 0}, {0, 1}, {1, 0}, {1, 1}, {2, 0}, {2, 1}});
        sheets("sheet after sheet", printing(2, 3, 0),
            new int[][] {{0, 0}, {0, 1}, {0, 2}, {1, 0}, {1, 1}, {1, 2}});
    }

    private static void oneCopyOrOneSheet() {
        for (int how : new int[] {0, GATHER}) {
            sheets("one copy", printing(3, 1, how), new int[][] {{0, 0}, {1, 0}, {2, 0}});
            sheets("one sheet of each set", printing(1, 3, how), new int[][] {{0, 0}, {0, 1}, {0, 2}});
            sheets("one sheet of one copy", printing(1, 1, how), new int[][] {{0, 0}});
        }
    }

    private static void noNextSheetWhenAllArePrinted() {
        PrintRoom x = printing(2, 2, GATHER + STAPLE1);
        x.run(2);
        due("a set is printed: the next one's sheet", x.jobInfo(0, 11), 0);
        due("a set is printed: the next one's copy", x.jobInfo(0, 12), 1);
        x.run(1);
        due("a stapling is under way: the next sheet", x.jobInfo(0, 11), 0);
        due("a stapling is under way: its copy", x.jobInfo(0, 12), 1);
        x.run(2 + 1);
        due("one sheet is left", x.jobInfo(0, 11), 1);
        x.run(1);
        due("all are printed: no sheet", x.jobInfo(0, 11), MISSING);
        due("all are printed: no copy", x.jobInfo(0, 12), MISSING);
        due("all are printed: not all are stapled", x.jobInfo(0, 10), 1);
        due("all are printed: all came to the bin", x.jobInfo(0, 9), 4);
        x.run(2);
        due("the last stapling is under way: no sheet", x.jobInfo(0, 11), MISSING);
    }

    /** How many sides the sheets have, one after another. */
    private static void sides(String name, int pages, int copies, int how, int... due) {
        PrintRoom x = printing(pages, copies, how);
        x.set(TURN, 0);
        int all = 0;
        for (int sides : due) {
            x.run(1);
            due(name + ": its ticks", x.count(5), sides - 1);
            if (sides == 2) {
                x.run(1);
            }
            all += sides;
            due(name + ": sides in the bin", x.account(3), all);
        }
        due(name + ": finished", x.account(5), 1);
    }

    private static void sidesOfSheets() {
        sides("one page", 1, 1, 0, 1);
        sides("two pages", 2, 1, 0, 1, 1);
        sides("one page, on both sides", 1, 1, BOTH, 1);
        sides("two pages, on both sides", 2, 1, BOTH, 2);
        sides("three pages, on both sides", 3, 1, BOTH, 2, 1);
        sides("four pages, on both sides", 4, 1, BOTH, 2, 2);
        sides("the last one of each set", 3, 2, BOTH + GATHER, 2, 1, 2, 1);
        sides("the last ones of the sets", 3, 2, BOTH, 2, 2, 1, 1);
        sides("one page twice, on both sides", 1, 2, BOTH, 1, 1);
        sides("an even number of pages", 4, 2, BOTH + GATHER, 2, 2, 2, 2);
    }

    private static void reason(PrintRoom x, int pages, int kind, int how, int due) {
        int before = x.count(2);
        due("stapled: " + pages + " pages, kind " + kind + ", how " + how,
            x.job(pages, 1, A4, kind, how), due == 0 ? before : IMPOSSIBLE);
        if (due == 0) {
            x.cancel(before);
        } else {
            due("stapled: the reason", x.refusal(), due);
        }
    }

    private static void firstReasonThatApplies() {
        PrintRoom x = new PrintRoom();
        for (int staple : new int[] {STAPLE1, STAPLE2}) {
            reason(x, 5, PLAIN, staple, 1);
            reason(x, 5, FILM, staple, 1);
            reason(x, 1, PLAIN, staple, 1);
            reason(x, 31, THICK, staple, 1);
            reason(x, 1, FILM, BOTH + staple, 1);
            reason(x, 5, FILM, GATHER + staple, 2);
            reason(x, 1, FILM, GATHER + staple, 2);
            reason(x, 31, FILM, GATHER + staple, 2);
            reason(x, 1, PLAIN, GATHER + staple, 3);
            reason(x, 1, THICK, GATHER + staple, 3);
            reason(x, 2, PLAIN, GATHER + BOTH + staple, 3);
            reason(x, 2, PLAIN, GATHER + staple, 0);
            reason(x, 3, PLAIN, GATHER + BOTH + staple, 0);
        }
        reason(x, 200, FILM, 0, 0);
        reason(x, 1, FILM, GATHER + BOTH, 0);
    }

    private static void limitOfSheets() {
        PrintRoom x = new PrintRoom();
        for (int kind : new int[] {PLAIN, COLORED}) {
            reason(x, 30, kind, GATHER + STAPLE1, 0);
            reason(x, 31, kind, GATHER + STAPLE1, 4);
            reason(x, 60, kind, GATHER + BOTH + STAPLE1, 0);
            reason(x, 61, kind, GATHER + BOTH + STAPLE1, 4);
        }
        x.set(SETLIMIT, 2);
        reason(x, 2, PLAIN, GATHER + STAPLE2, 0);
        reason(x, 3, PLAIN, GATHER + STAPLE2, 4);
        x.set(SETLIMIT, 100);
        reason(x, 100, PLAIN, GATHER + STAPLE2, 0);
        reason(x, 101, PLAIN, GATHER + STAPLE2, 4);
        reason(x, 200, PLAIN, GATHER + BOTH + STAPLE2, 0);
    }

    private static void halfTheLimitForThickPaper() {
        PrintRoom x = new PrintRoom();
        reason(x, 15, THICK, GATHER + STAPLE1, 0);
        reason(x, 16, THICK, GATHER + STAPLE1, 4);
        reason(x, 30, THICK, GATHER + BOTH + STAPLE1, 0);
        reason(x, 31, THICK, GATHER + BOTH + STAPLE1, 4);
        x.set(SETLIMIT, 31);
        reason(x, 15, THICK, GATHER + STAPLE1, 0);
        reason(x, 16, THICK, GATHER + STAPLE1, 4);
        x.set(SETLIMIT, 2);
        reason(x, 2, THICK, GATHER + STAPLE1, 4);
        reason(x, 1, THICK, GATHER + STAPLE1, 3);
        x.set(SETLIMIT, 3);
        reason(x, 2, THICK, GATHER + STAPLE1, 4);
        x.set(SETLIMIT, 4);
        reason(x, 2, THICK, GATHER + STAPLE1, 0);
        reason(x, 3, THICK, GATHER + STAPLE1, 4);
        x.set(SETLIMIT, 100);
        reason(x, 50, THICK, GATHER + STAPLE1, 0);
        reason(x, 51, THICK, GATHER + STAPLE1, 4);
    }

    private static void laterLimitDoesNotConcernTheQueue() {
        PrintRoom x = printing(5, 1, GATHER + STAPLE1);
        x.set(SETLIMIT, 2);
        due("a later limit: the job stays", x.count(0), 1);
        due("a later limit: it is printed", x.run(5), 5);
        due("a later limit: it does not stop", x.stop(), 0);
        x.run(3);
        due("a later limit: and stapled", x.account(4), 1);
        due("a later limit: finished", x.account(5), 1);
    }

    private static void greatestPriorityThenLeastNumber() {
        PrintRoom x = filled();
        for (int i = 0; i < 4; i++) {
            x.job(1, 1, A4, PLAIN, 0);
        }
        queue("one priority: by numbers", x, 0, 1, 2, 3);
        x.priority(3, 9);
        x.priority(1, 8);
        x.priority(2, 8);
        queue("priorities: the greatest, then the least number", x, 3, 1, 2, 0);
        for (int job : new int[] {3, 1, 2, 0}) {
            x.run(1);
            due("priorities: so they are printed", x.count(7), job);
            x.run(1);
        }
    }

    private static void begunJobStaysUntilFinished() {
        PrintRoom x = printing(2, 1, 0);
        x.job(1, 1, A4, PLAIN, 0);
        x.job(1, 1, A4, PLAIN, 0);
        x.run(1);
        due("begun job: between two sheets no work goes on", x.count(6), 0);
        x.priority(1, 8);
        x.priority(2, 9);
        queue("begun job: it stays", x, 0, 2, 1);
        due("begun job: it is printed first", x.ticksTo(0), 1);
        x.run(1);
        queue("begun job: until it is finished", x, 2, 1);
    }

    private static void begunJobStaysUntilHeld() {
        PrintRoom x = printing(4, 1, 0);
        x.job(4, 1, A4, PLAIN, 0);
        x.priority(1, 1);
        x.hold(1, 1);
        x.run(1);
        x.hold(1, 0);
        queue("begun job: it stays", x, 0, 1);
        x.hold(0, 0);
        queue("begun job: to let it go on changes nothing", x, 0, 1);
        x.hold(0, 1);
        queue("begun job: until it is held", x, 1, 0);
        x.hold(0, 0);
        queue("begun job: it does not stay so when it goes on", x, 1, 0);
        x.hold(1, 1);
        x.run(1);
        x.hold(1, 0);
        queue("begun job: but when a sheet of it is begun again", x, 0, 1);
        x.priority(0, 0);
        x.priority(1, 9);
        queue("begun job: whatever the priorities are", x, 0, 1);
    }

    private static void begunJobStaysUntilCancelled() {
        PrintRoom x = printing(4, 1, 0);
        x.job(4, 1, A4, PLAIN, 0);
        x.job(4, 1, A4, PLAIN, 0);
        x.run(1);
        x.priority(2, 9);
        queue("begun job: it stays", x, 0, 2, 1);
        x.cancel(0);
        queue("begun job: until it is cancelled", x, 2, 1);
    }

    private static void begunJobStaysWhenOthersGo() {
        PrintRoom x = printing(4, 1, 0);
        for (int i = 1; i <= 3; i++) {
            x.job(4, 1, A4, PLAIN, 0);
            x.priority(i, 9);
            x.hold(i, 1);
        }
        x.run(1);
        x.hold(1, 0);
        x.hold(2, 0);
        x.hold(3, 0);
        queue("others go: it stays", x, 0, 1, 2, 3);
        x.hold(1, 1);
        queue("others go: another one is held", x, 0, 2, 3, 1);
        x.cancel(2);
        queue("others go: another one is cancelled", x, 0, 3, 1);
        x.cancel(1);
        queue("others go: a held one is cancelled", x, 0, 3);
        x.run(1);
        due("others go: its sheet comes", x.jobInfo(0, 9), 2);
    }

    private static void staplingKeepsNoJob() {
        PrintRoom x = printing(2, 2, GATHER + STAPLE1);
        x.job(1, 1, A4, PLAIN, 0);
        x.run(2);
        x.hold(0, 1);
        x.hold(0, 0);
        x.run(1);
        due("stapling: it is begun, as its job is the next one", x.count(6), 2);
        x.priority(1, 1);
        queue("stapling: it keeps no job the next one", x, 1, 0);
        x.run(2);
        due("stapling: it goes on all the same", x.jobInfo(0, 10), 1);
        x.run(1);
        due("stapling: then the other one is printed", x.account(5), 1);
    }

    private static void heldOnesBehindAllOthers() {
        PrintRoom x = filled();
        for (int i = 0; i < 5; i++) {
            x.job(1, 1, A4, PLAIN, 0);
        }
        x.priority(0, 9);
        x.priority(1, 1);
        x.priority(4, 1);
        x.hold(0, 1);
        x.hold(1, 1);
        x.hold(4, 1);
        queue("held ones: behind all others, by priorities and numbers", x, 2, 3, 0, 1, 4);
        x.hold(2, 1);
        x.hold(3, 1);
        queue("held ones: all are held", x, 0, 1, 4, 2, 3);
        due("held ones: none is the next one", x.stop(), 1);
        x.hold(3, 0);
        queue("held ones: one is not", x, 3, 0, 1, 4, 2);
        due("held ones: it is the next one", x.stop(), 0);
    }

    private static void ticksOfSheet() {
        for (int side : new int[] {1, 2, 20}) {
            for (int turn : new int[] {0, 1, 20}) {
                PrintRoom x = filled();
                x.set(SIDE, side);
                x.set(TURN, turn);
                x.job(3, 1, A4, PLAIN, BOTH);
                int two = 2 * side + turn;
                due("ticks: of both sheets", x.ticksTo(0), two + side);
                x.run(1);
                due("ticks: this tick included", x.count(5), two - 1);
                for (int tick = 2; tick < two; tick++) {
                    due("ticks: not before the last one", x.run(1), 0);
                }
                due("ticks: at the end of the last one", x.run(1), 1);
                x.run(1);
                due("ticks: of one side, no turning", x.count(5), side - 1);
                due("ticks: in all", x.account(8), two + 1);
            }
        }
    }

    private static void ticksOfStapling() {
        for (int ticks : new int[] {1, 2, 3, 20}) {
            PrintRoom x = printing(2, 1, GATHER + STAPLE2);
            x.set(STAPLING, ticks);
            due("stapling: ticks to its end", x.ticksTo(0), 2 + ticks);
            x.run(2);
            due("stapling: not begun in the sheet's last tick", x.count(6), 0);
            x.run(1);
            due("stapling: this tick included", x.count(5), ticks - 1);
            due("stapling: under way until its last tick", x.count(6), ticks == 1 ? 0 : 2);
            if (ticks > 1) {
                due("stapling: its job", x.count(7), 0);
                due("stapling: no staples yet", x.count(4), 100);
                x.run(ticks - 1);
            }
            due("stapling: staples are used at its end", x.count(4), 98);
            due("stapling: finished", x.account(5), 1);
            due("stapling: no tick stopped", x.account(7), 0);
        }
    }

    private static void whatIsUnderWayTakesItsTime() {
        PrintRoom x = filled();
        x.job(4, 1, A4, PLAIN, BOTH + GATHER + STAPLE1);
        x.run(1);
        x.set(SIDE, 20);
        x.set(TURN, 20);
        due("under way: the sheet", x.count(5), 4);
        due("under way: its end", x.run(4), 1);
        x.run(1);
        due("under way: the next one", x.count(5), 59);
        x.set(SIDE, 1);
        x.set(TURN, 0);
        due("under way: neither shorter", x.run(58), 0);
        due("under way: its end", x.run(1), 1);
        x.run(1);
        x.set(STAPLING, 0);
        due("under way: the stapling", x.count(5), 2);
        due("under way: it is one still", x.count(6), 2);
        x.run(1);
        due("under way: not at its end", x.account(5), 0);
        x.run(1);
        due("under way: at its end", x.account(5), 1);
    }

    private static void staplingOfNoTicks() {
        PrintRoom x = printing(2, 2, GATHER + STAPLE1);
        x.set(STAPLING, 0);
        x.run(2);
        due("no ticks: stapled in the next tick, not in this one", x.jobInfo(0, 10), 0);
        due("no ticks: the tick goes on with the next sheet", x.run(1), 1);
        due("no ticks: stapled", x.jobInfo(0, 10), 1);
        x.run(1);
        due("no ticks: the last set is not stapled yet", x.account(5), 0);
        due("no ticks: it would stop behind it", x.stop(), 1);
        due("no ticks: but it is finished in a tick", x.ticksTo(0), 1);
        x.run(1);
        due("no ticks: stapled all the same", x.account(4), 2);
        due("no ticks: finished", x.account(5), 1);
        due("no ticks: the tick stopped", x.account(7), 1);
        due("no ticks: all ticks", x.account(8), 5);
    }

    private static void staplingsOfNoTicksInOneTick() {
        PrintRoom x = filled();
        x.set(SIDE, 1);
        x.set(STAPLING, 0);
        for (int job = 0; job < 10; job++) {
            x.job(2, 1, A4, PLAIN, GATHER + STAPLE1);
            x.run(2);
            x.hold(job, 1);
        }
        for (int job = 0; job < 10; job++) {
            x.hold(job, 0);
        }
        due("ten staplings: none is done", x.account(4), 0);
        due("ten staplings: then no job", x.stop(), 1);
        due("ten staplings: the last one", x.ticksTo(9), 1);
        x.staples(9);
        due("ten staplings: nine, then no staples", x.stop(), 4);
        due("ten staplings: the ninth one", x.ticksTo(8), 1);
        due("ten staplings: the tenth one", x.ticksTo(9), MISSING);
        x.run(1);
        due("ten staplings: nine in one tick", x.account(5), 9);
        due("ten staplings: which stopped", x.account(7), 1);
        x.staples(1);
        x.run(1);
        due("ten staplings: all", x.account(5), 10);
    }

    private static void reasonsOfStopInOrder() {
        PrintRoom x = new PrintRoom();
        x.set(SIDE, 1);
        x.set(BIN, 1);
        x.fill(0, 1);
        x.job(1, 1, A4, PLAIN, 0);
        x.run(1);
        due("reason 1: no job, though the paper is out and the bin is full", x.stop(), 1);
        x.job(1, 1, A4, PLAIN, 0);
        due("reason 2: no paper, though the bin is full", x.stop(), 2);
        x.hold(1, 1);
        due("reason 1: all jobs are held", x.stop(), 1);
        x.hold(1, 0);
        x.fill(3, 1);
        due("reason 3: the bin is full", x.stop(), 3);
        x.staples(0);
        due("reason 3: for a sheet staples do not matter", x.stop(), 3);
        x.emptyBin();
        due("no reason: a sheet is left", x.stop(), 0);
        x.load(3, A4, THICK);
        x.fill(3, 9);
        x.load(2, A3, PLAIN);
        x.fill(2, 9);
        due("reason 2: other papers do not matter", x.stop(), 2);
    }

    private static void reasonsForStapling() {
        PrintRoom x = new PrintRoom();
        x.set(SIDE, 1);
        x.set(BIN, 2);
        x.fill(0, 2);
        x.job(2, 2, A4, PLAIN, GATHER + STAPLE2);
        x.run(2);
        due("stapling: neither paper nor bin matter", x.stop(), 0);
        x.staples(1);
        due("stapling: one staple of two", x.stop(), 4);
        x.staples(0);
        due("stapling: none", x.stop(), 4);
        due("stapling: nothing is done", x.run(5), 0);
        due("stapling: stopped", x.account(7), 5);
        x.staples(2);
        due("stapling: both", x.stop(), 0);
        x.run(3);
        due("stapling: then there is no paper", x.stop(), 2);
        x.fill(0, 2);
        due("stapling: then the bin is full", x.stop(), 3);
    }

    private static void stopsInTheMiddleOfRun() {
        PrintRoom x = new PrintRoom();
        x.fill(0, 2);
        x.job(3, 1, A4, PLAIN, 0);
        due("stops in a run: two sheets", x.run(10), 2);
        due("stops in a run: the other ticks", x.account(7), 6);
        due("stops in a run: all", x.account(8), 10);
        x.fill(0, 1);
        due("stops in a run: the last sheet", x.run(2), 1);
        due("stops in a run: not in these", x.account(7), 6);
        due("stops in a run: no job is left", x.run(5000), 0);
        due("stops in a run: all of these", x.account(7), 5006);
    }

    private static void sheetIsTakenWhenBegun() {
        PrintRoom x = new PrintRoom();
        x.fill(0, 1);
        x.fill(1, 1);
        x.job(2, 1, A4, PLAIN, 0);
        x.run(1);
        due("taken: when it is begun", x.tray(0, 2), 0);
        due("taken: counted", x.account(0), 1);
        due("taken: in its paper, too", x.paper(0, 2), 1);
        due("taken: not in the bin", x.count(3), 0);
        due("taken: from a tray that then gets another paper", x.load(0, A3, FILM), 0);
        due("taken: it comes all the same", x.run(1), 1);
        due("taken: sheets that load takes out do not count", x.load(1, A5, FILM), 1);
        due("taken: so there is one", x.account(0), 1);
        due("taken: and one paper", x.count(14), 1);
    }

    private static void spoiledSheetIsBegunAgain() {
        PrintRoom x = printing(3, 1, 0);
        x.set(SPOILING, 2);
        due("spoiled: the first one is not", x.run(1), 1);
        due("spoiled: the second one is", x.run(1), 0);
        due("spoiled: counted", x.account(2), 1);
        due("spoiled: the same sheet", x.jobInfo(0, 11), 1);
        due("spoiled: one is in the bin", x.jobInfo(0, 9), 1);
        due("spoiled: the job goes on", x.count(0), 1);
        due("spoiled: its sides do not count", x.account(3), 1);
        due("spoiled: begun again", x.run(1), 1);
        due("spoiled: the fourth one is", x.run(1), 0);
        due("spoiled: the last sheet again", x.run(1), 1);
        due("spoiled: finished", x.account(5), 1);
        due("spoiled: taken", x.account(0), 5);
    }

    private static void noSpoilingAndEverySheet() {
        PrintRoom x = printing(90, 1, 0);
        due("no spoiling: all come", x.run(9), 9);
        x.set(SPOILING, 1);
        due("each one is spoiled: none comes", x.run(11), 0);
        due("each one is spoiled: all of them", x.account(2), 11);
        due("each one is spoiled: never finished", x.ticksTo(0), MISSING);
        x.set(SPOILING, 0);
        due("no spoiling again: all come", x.run(9), 9);
    }

    private static void greatestSpoiling() {
        PrintRoom x = fullOfPaper();
        x.set(SPOILING, 500);
        x.job(200, 10, A4, PLAIN, 0);
        due("500: the first 499 come", x.run(499), 499);
        due("500: the 500th is spoiled", x.run(1), 0);
        due("500: the next 499 come", x.run(499), 499);
        due("500: the 1000th is spoiled", x.run(1), 0);
        due("500: both", x.account(2), 2);
    }

    private static void spoilingCountsAllFinishedSheets() {
        PrintRoom x = printing(60, 1, 0);
        x.run(3);
        x.set(SPOILING, 4);
        due("all finished: those before the setting, too", x.run(1), 0);
        due("all finished: spoiled ones, too", x.run(3), 3);
        due("all finished: the eighth", x.run(1), 0);
        x.set(SPOILING, 3);
        due("all finished: the ninth", x.run(1), 0);
        x.set(SPOILING, 10);
        due("all finished: the tenth", x.run(1), 0);
        x.cancel(0);
        x.job(5, 1, A4, PLAIN, 0);
        x.set(SPOILING, 11);
        due("all finished: of another job, too", x.run(1), 0);
    }

    private static void heldSheetIsNotFinished() {
        PrintRoom x = filled();
        x.set(SPOILING, 3);
        x.job(9, 1, A4, PLAIN, 0);
        x.run(3);
        x.hold(0, 1);
        due("held: spoiled at once", x.account(2), 1);
        due("held: nothing is under way", x.count(6), 0);
        x.run(1);
        due("held: not once more", x.account(2), 1);
        x.hold(0, 0);
        x.run(1);
        x.cancel(0);
        due("cancelled: spoiled at once", x.account(2), 2);
        x.job(9, 1, A4, PLAIN, 0);
        due("held and cancelled: not counted as finished, so the second one comes", x.run(2), 1);
        due("held and cancelled: the third one is spoiled", x.run(2), 0);
        due("held and cancelled: spoiled", x.account(2), 3);
        due("held and cancelled: taken", x.account(0), 5);
    }

    private static void staplesAtTheEndOfStapling() {
        for (int left = 0; left <= 3; left++) {
            PrintRoom x = printing(2, 1, GATHER + STAPLE2);
            x.run(4);
            due("staples at the end: under way", x.count(5), 1);
            x.staples(left);
            due("staples at the end: what is begun goes on", x.stop(), 0);
            x.run(1);
            due("staples at the end: all that there are, two at most", x.account(4), Math.min(left, 2));
            due("staples at the end: left", x.count(4), Math.max(0, left - 2));
            due("staples at the end: finished", x.account(5), 1);
        }
    }

    private static void finishedWithLastSheetOrStapling() {
        PrintRoom x = printing(2, 2, GATHER);
        due("finished: all but one", x.run(3), 3);
        due("finished: not yet", x.account(5), 0);
        due("finished: with the last sheet", x.run(1), 1);
        due("finished: now", x.account(5), 1);
        due("finished: it leaves the queue", x.count(0), 0);
        due("finished: it is no longer there", x.jobInfo(0, 0), MISSING);
        PrintRoom y = printing(2, 2, GATHER + STAPLE1);
        due("finished: all sheets", y.run(2 + 3 + 2), 4);
        due("finished: not yet", y.count(0), 1);
        y.run(2);
        due("finished: not yet", y.count(0), 1);
        y.run(1);
        due("finished: with the last stapling", y.account(5), 1);
        due("finished: it leaves the queue", y.count(0), 0);
    }

    private static void heldStaplingIsGivenUp() {
        PrintRoom x = printing(2, 1, GATHER + STAPLE2);
        x.run(4);
        due("stapling: in its last tick", x.count(5), 1);
        x.hold(0, 1);
        due("stapling: given up", x.count(6), 0);
        due("stapling: no sheet is spoiled", x.account(2), 0);
        x.hold(0, 0);
        due("stapling: no staples are used", x.count(4), 100);
        due("stapling: it is begun again, from its beginning", x.ticksTo(0), 3);
        x.run(2);
        due("stapling: begun again", x.count(6), 2);
        due("stapling: none is stapled", x.jobInfo(0, 10), 0);
        due("stapling: cancelled", x.cancel(0), 2);
        due("stapling: given up again", x.count(6), 0);
        due("stapling: no staples", x.account(4), 0);
        due("stapling: nothing is spoiled", x.account(2), 0);
        due("stapling: not finished", x.account(5), 0);
    }

    private static void cancelledJob() {
        PrintRoom x = filled();
        x.job(3, 1, A4, PLAIN, 0);
        due("cancelled: none of its sheets", x.cancel(0), 0);
        x.job(3, 1, A4, PLAIN, 0);
        x.run(5);
        x.emptyBin();
        due("cancelled: two of its three, though the bin was emptied", x.cancel(1), 2);
        due("cancelled: the third one is spoiled", x.account(2), 1);
        x.job(3, 1, A4, PLAIN, 0);
        x.run(4);
        x.hold(2, 1);
        due("cancelled: a held one", x.cancel(2), 2);
        due("cancelled: its sheets stay in the bin", x.count(3), 2);
        due("cancelled: once", x.cancel(2), MISSING);
        due("cancelled: three", x.account(6), 3);
        due("cancelled: no held one is left", x.count(1), 0);
        x.job(1, 1, A4, PLAIN, 0);
        x.run(2);
        due("finished: it cannot be cancelled", x.cancel(3), MISSING);
        due("finished: still three", x.account(6), 3);
    }

    private static void otherJobsWorkGoesOn() {
        PrintRoom x = filled();
        for (int i = 0; i < 4; i++) {
            x.job(2, 1, A4, PLAIN, GATHER + STAPLE1);
        }
        x.run(1);
        x.hold(2, 1);
        x.cancel(3);
        due("others: the sheet goes on", x.count(5), 1);
        due("others: no sheet is spoiled", x.account(2), 0);
        x.run(4);
        x.hold(2, 0);
        x.hold(2, 1);
        x.cancel(1);
        due("others: the stapling goes on", x.count(5), 2);
        due("others: it is one still", x.count(6), 2);
        x.run(2);
        due("others: stapled", x.account(4), 1);
        due("others: finished", x.account(5), 1);
    }

    private static void accountsInEachTick() {
        PrintRoom x = filled();
        x.set(SPOILING, 3);
        x.job(3, 2, A4, PLAIN, BOTH + GATHER + STAPLE1);
        x.job(2, 2, A4, PLAIN, 0);
        for (int tick = 1; tick <= 45; tick++) {
            x.run(1);
            if (tick == 12) {
                x.hold(0, 1);
            }
            if (tick == 15) {
                x.hold(0, 0);
            }
            int underWay = x.count(6) == 1 ? 1 : 0;
            due("accounts: taken are those in the bin, spoiled and under way",
                x.account(0), x.account(1) + x.account(2) + underWay);
            due("accounts: of the only paper", x.paper(0, 2), x.account(0));
            due("accounts: out of the tray", x.tray(0, 2), 100 - x.account(0));
            due("accounts: ticks", x.account(8), tick);
        }
        due("accounts: both jobs", x.account(5), 2);
        due("accounts: all sheets came", x.account(1), 8);
        due("accounts: their sides", x.account(3), 2 + 1 + 2 + 1 + 4);
        due("accounts: staples", x.account(4), 2);
    }

    private static void lackingSheets() {
        PrintRoom x = new PrintRoom();
        x.fill(0, 2);
        x.fill(3, 3);
        x.job(5, 1, A4, PLAIN, 0);
        due("lacking: as many as there are", x.lacking(A4, PLAIN), 0);
        x.job(1, 1, A4, PLAIN, 0);
        due("lacking: one", x.lacking(A4, PLAIN), 1);
        x.hold(1, 1);
        due("lacking: held ones, too", x.lacking(A4, PLAIN), 1);
        x.run(1);
        due("lacking: without those under way", x.lacking(A4, PLAIN), 1);
        x.fill(0, 2);
        due("lacking: none, though one is over", x.lacking(A4, PLAIN), 0);
        x.hold(0, 1);
        due("lacking: the spoiled one anew", x.lacking(A4, PLAIN), 0);
        x.load(0, A4, THICK);
        due("lacking: all but three", x.lacking(A4, PLAIN), 3);
        due("lacking: no job has this paper", x.lacking(A4, THICK), 0);
        x.job(200, 50, A3, FILM, 0);
        due("lacking: the most of a job", x.lacking(A3, FILM), 10000);
        x.load(1, A3, FILM);
        x.fill(1, 1);
        x.run(1);
        due("lacking: another paper's sheet is under way", x.lacking(A4, PLAIN), 3);
        due("lacking: this one's", x.lacking(A3, FILM), 9999);
        PrintRoom y = new PrintRoom();
        for (int i = 0; i < 10; i++) {
            y.job(200, 50, A5, COLORED, 0);
        }
        due("lacking: the most of all", y.lacking(A5, COLORED), 100000);
        PrintRoom z = printing(2, 1, GATHER + STAPLE1);
        z.run(3);
        z.load(0, A4, PLAIN);
        due("lacking: a stapling under way is no sheet, and all are printed", z.lacking(A4, PLAIN), 0);
        z.job(1, 1, A4, PLAIN, 0);
        due("lacking: a stapling under way is no sheet", z.lacking(A4, PLAIN), 1);
    }

    private static void foretoldTicks() {
        PrintRoom x = fullOfPaper();
        x.set(SIDE, 20);
        x.job(200, 5, A4, PLAIN, 0);
        due("foretold: 20000", x.ticksTo(0), 20000);
        x.job(1, 1, A4, PLAIN, 0);
        due("foretold: over the bin", x.ticksTo(1), MISSING);
        x.priority(1, 1);
        due("foretold: 20020", x.ticksTo(0), MISSING);
        due("foretold: the first one", x.ticksTo(1), 20);
        x.hold(1, 1);
        due("foretold: a held one", x.ticksTo(1), MISSING);
        due("foretold: the held one does not matter", x.ticksTo(0), 20000);
        due("foretold: nothing changes", x.account(8), 0);
        staplingAtTheLastForetoldTick();
    }

    /** 999 sheets of 20 ticks and one of 19 or 20 ticks are ahead of a stapling of 0 ticks, or of one tick. */
    private static void staplingAtTheLastForetoldTick() {
        PrintRoom x = fullOfPaper();
        x.set(SIDE, 20);
        x.set(STAPLING, 0);
        x.set(SETLIMIT, 100);
        x.job(100, 10, A4, PLAIN, GATHER + STAPLE1);
        due("foretold: stapled in the tick 20001", x.ticksTo(0), MISSING);
        x.run(1);
        due("foretold: stapled in the tick 20000", x.ticksTo(0), 20000);
        x.set(STAPLING, 1);
        due("foretold: ten staplings of a tick", x.ticksTo(0), MISSING);
        x.run(9);
        due("foretold: ten staplings of a tick, ten ticks later", x.ticksTo(0), 20000);
    }

    private static void undoRestoresWhatIsHidden() {
        PrintRoom x = printing(9, 1, 0);
        x.set(SPOILING, 2);
        x.run(1);
        x.undo();
        due("undo: the number of finished sheets", x.run(1), 1);
        due("undo: the second one is spoiled", x.run(1), 0);
        x.job(9, 1, A4, PLAIN, 0);
        x.priority(1, 9);
        queue("undo: the begun job stays", x, 0, 1);
        x.cancel(0);
        queue("undo: it is cancelled", x, 1);
        x.undo();
        queue("undo: the begun job stays again", x, 0, 1);
        x.hold(0, 1);
        x.hold(0, 0);
        queue("undo: it was held", x, 1, 0);
        x.undo();
        x.undo();
        queue("undo: it was not", x, 0, 1);
    }
}
