/** Compares PrintRoom with NaiveRoom over many runs of calls; the runs come from a fixed series of numbers. */
public final class ModelTests {
    private static final int RUNS = 3000;
    // An object is used for 512 calls; those that are made at once may go beyond this number.
    private static final int CALLS = 490;
    private static final int MOST_KEPT = 4000;
    private static final String[] TEXTS = {
        "3p 2c A4 plain;", "004p 03c both gather staple1 A4 plain;", "1p 1c both A3 thick;", "2p 2c gather staple2 A4 thick;",
        "12p 1c both gather staple2 letter colored;", "0p 1c A5 film;", "201p 1c A5 film;", "1p 51c A5 film;",
        "1p 0c gather A5 film;", "5p 2c gather staple1 A5 film;", "1p 2c gather staple1 A5 plain;", "5p 2c staple2 A5 plain;",
        "61p 1c both gather staple1 A4 plain;", "3p 2c A4 plain", "3p 2c A4;", "3p  2c A4 plain;", "0003p 2c A4 plain;",
        "3p 2c gather both A4 plain;", "3p 2c both both A4 plain;", "3p 2c gather staple3 A4 plain;", " ", ";", "p 2c A4 plain;",
        "3p 2c A4 plain ;", "3P 2c A4 plain;", "3p 2c plain A4;", "200p 050c gather A3 film;", "3p 2c gather staple1 staple2 A4 plain;",
        "1p 1c A4 plain;", "1p 1c A4 plain;", "1p 1c A4 film;", "9p 1c gather staple2 A4 plain;"};

    private static final Checks CHECKS = new Checks();

    private final PrintRoom room = new PrintRoom();
    private final NaiveRoom naive = new NaiveRoom();
    private final StringBuilder told = new StringBuilder();
    private final int typist;
    private long seed;
    private int callsLeft = CALLS;

    private ModelTests(int run) {
        seed = run * 7919L + 17;
        typist = run % 3;
    }

    public static void main(String[] args) {
        for (int run = 0; run < RUNS && !CHECKS.isAnyWrong(); run++) {
            ModelTests test = new ModelTests(run);
            test.prepare();
            while (test.callsLeft > 0 && !CHECKS.isAnyWrong()) {
                test.callOnce();
            }
            if (CHECKS.isAnyWrong()) {
                int from = Math.max(0, test.told.length() - MOST_KEPT);
                System.out.println("run " + run + ": .. " + test.told.substring(from));
            }
        }
        CHECKS.end("ModelTests");
    }

    private int below(int bound) {
        seed = seed * 6364136223846793005L + 1442695040888963407L;
        return (int) ((seed >>> 33) % bound);
    }

    /** Mostly from the range, now and then just out of it or far away. */
    private int about(int least, int greatest) {
        switch (below(40)) {
            case 0: return least - 1;
            case 1: return greatest + 1;
            case 2: return below(2) == 0 ? Integer.MIN_VALUE : Integer.MAX_VALUE;
            case 3: return least;
            case 4: return greatest;
            default: return least + below(greatest - least + 1);
        }
    }

    private int someJob() {
        int latest = naive.count(2);
        switch (below(12)) {
            case 0: return about(-1, latest + 1);
            case 1: return naive.count(7);
            default:
                int place = below(Math.max(1, naive.count(0)));
                return Math.max(below(30) - 1, naive.queued(place));
        }
    }

    private void due(String call, int got, int want) {
        callsLeft--;
        told.append(call).append(" = ").append(want).append("; ");
        CHECKS.due(call, got, want);
    }

    /** Papers and settings with which something happens: few papers, small bins and sets. */
    private void prepare() {
        for (int tray = 0; tray < 4; tray++) {
            load(tray, below(3) == 0 ? below(4) : 1, below(3) == 0 ? below(4) : 0);
            fill(tray, 1 + below(500));
        }
        if (below(2) == 0) {
            set(2, 0);
        }
        if (below(3) == 0) {
            set(4, 1 + below(9));
        }
        if (below(3) == 0) {
            set(5, 1 + below(30));
        }
        if (below(4) == 0) {
            staples(below(8));
        }
    }

    private void callOnce() {
        int choice = below(100);
        if (choice < 12) {
            job();
        } else if (choice < 32) {
            int most = below(8) == 0 ? 5000 : 40;
            run(below(3) == 0 ? 1 + below(3) : about(1, most));
        } else if (choice < 60) {
            changeSomething(choice);
        } else if (choice < 65) {
            due("undo()", room.undo(), naive.undo());
        } else if (choice < 73) {
            write();
        } else {
            ask(choice);
        }
    }

    private void job() {
        boolean isSmall = below(3) > 0;
        int pages = isSmall ? 1 + below(6) : about(1, 200);
        int copies = isSmall ? 1 + below(3) : about(1, 50);
        int size = below(4) > 0 ? 1 : about(0, 3);
        int kind = below(4) > 0 ? below(2) : about(0, 3);
        int how = below(2) == 0 ? below(4) + 2 : about(0, 11) + (below(20) == 0 ? below(6) : 0);
        due("job(" + pages + ", " + copies + ", " + size + ", " + kind + ", " + how + ")",
            room.job(pages, copies, size, kind, how), naive.job(pages, copies, size, kind, how));
        due("refusal()", room.refusal(), naive.refusal());
    }

    private void run(int ticks) {
        due("run(" + ticks + ")", room.run(ticks), naive.run(ticks));
    }

    private void load(int tray, int size, int kind) {
        due("load(" + tray + ", " + size + ", " + kind + ")", room.load(tray, size, kind), naive.load(tray, size, kind));
    }

    private void fill(int tray, int sheets) {
        due("fill(" + tray + ", " + sheets + ")", room.fill(tray, sheets), naive.fill(tray, sheets));
    }

    private void set(int what, int value) {
        due("set(" + what + ", " + value + ")", room.set(what, value), naive.set(what, value));
    }

    private void staples(int staples) {
        due("staples(" + staples + ")", room.staples(staples), naive.staples(staples));
    }

    private void hold(int job, int held) {
        due("hold(" + job + ", " + held + ")", room.hold(job, held), naive.hold(job, held));
    }

    private void cancel(int job) {
        due("cancel(" + job + ")", room.cancel(job), naive.cancel(job));
    }

    private void priority(int job, int value) {
        due("priority(" + job + ", " + value + ")", room.priority(job, value), naive.priority(job, value));
    }

    private void changeSomething(int choice) {
        switch (choice) {
            case 32: case 33: case 34: fill(about(0, 3), below(3) == 0 ? about(1, 500) : 1 + below(20)); return;
            case 35: load(about(0, 3), about(0, 3), about(0, 3)); return;
            case 36: load(about(0, 3), 1, below(2)); return;
            case 37: staples(about(0, 5000)); return;
            case 38: staples(below(4)); return;
            case 39: case 40: due("emptyBin()", room.emptyBin(), naive.emptyBin()); return;
            case 41: set(about(0, 5), about(0, 30)); return;
            case 42: set(2, below(2) * below(5)); return;
            case 43: set(about(0, 5), about(1, 1000)); return;
            case 44: set(4, below(3) * below(4)); return;
            case 45: case 46: case 47: case 48: hold(someJob(), below(10) == 0 ? about(0, 1) : 1); return;
            case 49: case 50: case 51: hold(someJob(), 0); return;
            case 52: case 53: cancel(someJob()); return;
            default: priority(someJob(), about(0, 9));
        }
    }

    private void write() {
        if (below(3) > 0) {
            due("clearText()", room.clearText(), naive.clearText());
        }
        int jobs = typist == 0 ? 1 : 1 + below(5);
        for (int i = 0; i < jobs; i++) {
            write(TEXTS[typist == 2 ? 28 + below(4) : below(TEXTS.length)]);
        }
        if (below(8) == 0) {
            int character = about(32, 126);
            due("type(" + character + ")", room.type(character), naive.type(character));
        }
        due("fault(0)", room.fault(0), naive.fault(0));
        due("fault(1)", room.fault(1), naive.fault(1));
        due("enter()", room.enter(), naive.enter());
    }

    private void write(String text) {
        if (callsLeft < 150) {
            return;
        }
        for (char sign : text.toCharArray()) {
            due("type(" + (int) sign + ")", room.type(sign), naive.type(sign));
        }
    }

    private void ask(int choice) {
        int what = about(0, 16);
        due("count(" + what + ")", room.count(what), naive.count(what));
        int account = about(0, 8);
        due("account(" + account + ")", room.account(account), naive.account(account));
        switch (choice % 8) {
            case 0: due("stop()", room.stop(), naive.stop()); return;
            case 1: askTicks(someJob()); return;
            case 2: askQueue(); return;
            case 3: askJob(someJob(), about(0, 12)); return;
            case 4: askJob(someJob(), 9 + below(4)); return;
            case 5: askTray(about(0, 3), about(0, 3)); return;
            case 6: askPaper(about(0, 4), about(0, 2)); return;
            default: askLacking(below(2) == 0 ? 1 : about(0, 3), below(2) == 0 ? 0 : about(0, 3));
        }
    }

    private void askTicks(int job) {
        due("ticksTo(" + job + ")", room.ticksTo(job), naive.ticksTo(job));
    }

    private void askQueue() {
        for (int place = -1; place <= naive.count(0); place++) {
            due("queued(" + place + ")", room.queued(place), naive.queued(place));
        }
    }

    private void askJob(int job, int what) {
        due("jobInfo(" + job + ", " + what + ")", room.jobInfo(job, what), naive.jobInfo(job, what));
    }

    private void askTray(int tray, int what) {
        due("tray(" + tray + ", " + what + ")", room.tray(tray, what), naive.tray(tray, what));
    }

    private void askPaper(int index, int what) {
        due("paper(" + index + ", " + what + ")", room.paper(index, what), naive.paper(index, what));
    }

    private void askLacking(int size, int kind) {
        due("lacking(" + size + ", " + kind + ")", room.lacking(size, kind), naive.lacking(size, kind));
    }
}
