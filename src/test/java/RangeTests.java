/**
 * Each argument of each call: the least and the greatest value that is allowed and what they answer, all values
 * between them, and the first ones beyond them on both sides.
 */
public final class RangeTests extends RoomChecks {
    /** A call on a machine, with a value for the argument that is looked at. */
    private interface CallWith {
        int on(PrintRoom x, int value);
    }

    private RangeTests() {
    }

    public static void main(String[] args) {
        fill();
        load();
        tray();
        staples();
        set();
        job();
        jobHow();
        hold();
        cancel();
        priority();
        jobInfo();
        queued();
        run();
        count();
        account();
        paper();
        lacking();
        ticksTo();
        type();
        fault();
        CHECKS.end("RangeTests");
    }

    /** A machine with one job, 0, on A4 plain, and empty trays. */
    private static PrintRoom withJob() {
        PrintRoom x = new PrintRoom();
        x.job(1, 1, A4, PLAIN, 0);
        return x;
    }

    private static void range(String argument, int least, int greatest, CallWith call) {
        for (int value = least; value <= greatest; value++) {
            CHECKS.holds(argument + " may be " + value, call.on(withJob(), value) != INVALID);
        }
        int[] beyond = {least - 1, least - 2, greatest + 1, greatest + 2, Integer.MIN_VALUE, Integer.MAX_VALUE};
        for (int value : beyond) {
            due(argument + " " + value, call.on(withJob(), value), INVALID);
        }
    }

    /** An argument that is wrong only if it is negative; beyond what there is, NOT_FOUND is due. */
    private static void fromZero(String argument, CallWith call) {
        for (int value : new int[] {-1, -2, Integer.MIN_VALUE}) {
            due(argument + " " + value, call.on(withJob(), value), INVALID);
        }
        CHECKS.holds(argument + " may be 0", call.on(withJob(), 0) >= 0);
        for (int value : new int[] {1, 2, 9, 10, 11, 1000, Integer.MAX_VALUE - 1, Integer.MAX_VALUE}) {
            due(argument + " " + value, call.on(withJob(), value), MISSING);
        }
    }

    private static void fill() {
        range("2: tray, 0 to 3", 0, 3, (x, value) -> x.fill(value, 1));
        range("2: sheets, 1 to 500", 1, 500, (x, value) -> x.fill(0, value));
        PrintRoom x = new PrintRoom();
        due("2: the least", x.fill(0, 1), 1);
        due("2: the greatest", x.fill(3, 500), 500);
    }

    private static void load() {
        range("3: tray, 0 to 3", 0, 3, (x, value) -> x.load(value, 1, 1));
        range("3: size, 0 to 3", 0, 3, (x, value) -> x.load(1, value, 1));
        range("3: kind, 0 to 3", 0, 3, (x, value) -> x.load(1, 1, value));
        PrintRoom x = new PrintRoom();
        x.load(0, A5, PLAIN);
        x.load(3, LETTER, FILM);
        due("3: the least size", x.tray(0, 0), 0);
        due("3: the least kind", x.tray(0, 1), 0);
        due("3: the greatest size", x.tray(3, 0), 3);
        due("3: the greatest kind", x.tray(3, 1), 3);
    }

    private static void tray() {
        range("4: tray, 0 to 3", 0, 3, (x, value) -> x.tray(value, 0));
        range("4: what, 0 to 3", 0, 3, (x, value) -> x.tray(0, value));
        for (int what = 0; what < 4; what++) {
            due("4: neither of them", new PrintRoom().tray(4, what), INVALID);
            due("4: neither of them", new PrintRoom().tray(-1, 4 + what), INVALID);
        }
    }

    private static void staples() {
        range("5: staples, 0 to 5000", 0, 5000, (x, value) -> x.staples(value));
        PrintRoom x = new PrintRoom();
        x.staples(0);
        due("5: the least", x.count(4), 0);
        x.staples(5000);
        due("5: the greatest", x.count(4), 5000);
    }

    private static void set() {
        range("7: what, 0 to 5", 0, 5, (x, value) -> x.set(value, 5));
        range("7: ticks of a side, 1 to 20", 1, 20, (x, value) -> x.set(SIDE, value));
        range("7: ticks of turning, 0 to 20", 0, 20, (x, value) -> x.set(TURN, value));
        range("7: ticks of stapling, 0 to 20", 0, 20, (x, value) -> x.set(STAPLING, value));
        range("7: the limit, 2 to 100", 2, 100, (x, value) -> x.set(SETLIMIT, value));
        range("7: the spoiling, 0 to 500", 0, 500, (x, value) -> x.set(SPOILING, value));
        range("7: the bin, 1 to 1000", 1, 1000, (x, value) -> x.set(BIN, value));
        int[] first = {2, 1, 3, 30, 0, 250};
        for (int what = 0; what < 6; what++) {
            due("7: first value of " + what, new PrintRoom().count(8 + what), first[what]);
        }
    }

    private static void job() {
        range("8: pages, 1 to 200", 1, 200, (x, value) -> x.job(value, 1, 1, 0, 0));
        range("8: copies, 1 to 50", 1, 50, (x, value) -> x.job(1, value, 1, 0, 0));
        range("8: size, 0 to 3", 0, 3, (x, value) -> x.job(1, 1, value, 0, 0));
        range("8: kind, 0 to 3", 0, 3, (x, value) -> x.job(1, 1, 1, value, 0));
        range("8: how, 0 to 11", 0, 11, (x, value) -> x.job(2, 1, 1, 0, value));
        PrintRoom x = new PrintRoom();
        x.job(1, 1, A5, PLAIN, 0);
        x.job(200, 50, LETTER, FILM, BOTH + GATHER);
        int[] least = {1, 1, 0, 0, 0, 0, 0, 1, 1, 0, 0, 0, 0};
        int[] greatest = {200, 50, 3, 3, 3, 0, 0, 100, 5000, 0, 0, 0, 0};
        for (int what = 0; what < 13; what++) {
            due("8: the least, " + what, x.jobInfo(0, what), least[what]);
            due("8: the greatest, " + what, x.jobInfo(1, what), greatest[what]);
        }
    }

    private static void jobHow() {
        for (int how = 0; how < 12; how++) {
            boolean isRefused = how >= STAPLE1 && (how & GATHER) == 0;
            due("8: a sum, " + how, new PrintRoom().job(4, 1, 1, 0, how), isRefused ? IMPOSSIBLE : 0);
            PrintRoom x = new PrintRoom();
            x.job(4, 1, 1, 0, how);
            due("8: as it was brought, " + how, x.jobInfo(0, 4), isRefused ? MISSING : how);
        }
        for (int how = 12; how < 40; how++) {
            due("8: not both of the staples, nor more signs: " + how, new PrintRoom().job(4, 1, 1, 0, how), INVALID);
        }
    }

    private static void hold() {
        fromZero("10: job", (x, value) -> x.hold(value, 0));
        fromZero("10: job", (x, value) -> x.hold(value, 1));
        range("10: held, 0 to 1", 0, 1, (x, value) -> x.hold(0, value));
    }

    private static void cancel() {
        fromZero("11: job", (x, value) -> x.cancel(value));
    }

    private static void priority() {
        fromZero("12: job", (x, value) -> x.priority(value, 5));
        range("12: value, 0 to 9", 0, 9, (x, value) -> x.priority(0, value));
        for (int value = 0; value <= 9; value++) {
            PrintRoom x = withJob();
            x.priority(0, value);
            due("12: it is so", x.jobInfo(0, 5), value);
            due("12: the previous one", x.priority(0, 4), value);
        }
    }

    private static void jobInfo() {
        for (int what = 0; what < 13; what++) {
            int property = what;
            fromZero("13: job, what " + what, (x, value) -> x.jobInfo(value, property));
        }
        range("13: what, 0 to 12", 0, 12, (x, value) -> x.jobInfo(0, value));
    }

    private static void queued() {
        fromZero("14: place", (x, value) -> x.queued(value));
    }

    private static void run() {
        range("15: ticks, 1 to 5000", 1, 5000, (x, value) -> x.run(value));
        PrintRoom x = withJob();
        x.run(1);
        due("15: the least", x.account(8), 1);
        x.run(5000);
        due("15: the greatest", x.account(8), 5001);
    }

    private static void count() {
        range("17: what, 0 to 16", 0, 16, (x, value) -> x.count(value));
    }

    private static void account() {
        range("18: what, 0 to 8", 0, 8, (x, value) -> x.account(value));
    }

    private static PrintRoom withTakenSheet() {
        PrintRoom x = withJob();
        x.fill(0, 1);
        x.run(1);
        return x;
    }

    private static void paper() {
        range("19: what, 0 to 2", 0, 2, (x, value) -> x.paper(0, value));
        for (int what = 0; what < 3; what++) {
            int property = what;
            for (int index : new int[] {-1, -2, Integer.MIN_VALUE}) {
                due("19: index " + index, withTakenSheet().paper(index, property), INVALID);
            }
            due("19: index 0", withTakenSheet().paper(0, property), new int[] {1, 0, 1}[what]);
            for (int index = 1; index < 20; index++) {
                due("19: index " + index, withTakenSheet().paper(index, property), MISSING);
            }
            due("19: far", withTakenSheet().paper(Integer.MAX_VALUE, property), MISSING);
        }
    }

    private static void lacking() {
        range("20: size, 0 to 3", 0, 3, (x, value) -> x.lacking(value, 0));
        range("20: kind, 0 to 3", 0, 3, (x, value) -> x.lacking(0, value));
    }

    private static void ticksTo() {
        for (int job : new int[] {-1, -2, Integer.MIN_VALUE}) {
            due("21: job " + job, withTakenSheet().ticksTo(job), INVALID);
        }
        due("21: job 0", withTakenSheet().ticksTo(0), 1);
        for (int job : new int[] {1, 2, 10, 1000, Integer.MAX_VALUE}) {
            due("21: job " + job, withTakenSheet().ticksTo(job), MISSING);
        }
    }

    private static void type() {
        range("23: character, 32 to 126", 32, 126, (x, value) -> x.type(value));
        for (int turn : new int[] {128, 256, 65536, -65536, 1 << 24}) {
            due("23: 49 and " + turn, new PrintRoom().type(49 + turn), INVALID);
        }
    }

    private static void fault() {
        PrintRoom x = new PrintRoom();
        x.type('x');
        due("25: the index", x.fault(0), 0);
        due("25: the reason", x.fault(1), 1);
        for (int what : new int[] {-1, -2, 2, 3, Integer.MIN_VALUE, Integer.MAX_VALUE}) {
            due("25: what " + what, x.fault(what), INVALID);
            due("25: what " + what + " of no fault", new PrintRoom().fault(what), INVALID);
        }
    }
}
