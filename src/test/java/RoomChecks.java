import java.util.ArrayList;
import java.util.List;

/** What the tests of PrintRoom share: names for its numbers, machines to begin with, and all that a machine tells. */
abstract class RoomChecks {
    static final int INVALID = -1;
    static final int IMPOSSIBLE = -2;
    static final int LIMIT = -3;
    static final int MISSING = -4;
    static final int[] FAR = {Integer.MIN_VALUE, Integer.MAX_VALUE};

    static final int A5 = 0;
    static final int A4 = 1;
    static final int A3 = 2;
    static final int LETTER = 3;
    static final int PLAIN = 0;
    static final int THICK = 1;
    static final int COLORED = 2;
    static final int FILM = 3;

    static final int BOTH = 1;
    static final int GATHER = 2;
    static final int STAPLE1 = 4;
    static final int STAPLE2 = 8;

    // The settings, as set() names them.
    static final int SIDE = 0;
    static final int TURN = 1;
    static final int STAPLING = 2;
    static final int SETLIMIT = 3;
    static final int SPOILING = 4;
    static final int BIN = 5;

    static final Checks CHECKS = new Checks();

    /** A way to a machine of a certain state; each call makes another one. */
    interface Maker {
        PrintRoom make();
    }

    /** A call whose answer is looked at. */
    interface Call {
        int on(PrintRoom x);
    }

    static void due(String call, int got, int want) {
        CHECKS.due(call, got, want);
    }

    /** A machine with 100 sheets of A4 plain. */
    static PrintRoom filled() {
        PrintRoom x = new PrintRoom();
        x.fill(0, 100);
        return x;
    }

    /** A machine with 2000 sheets of A4 plain, the largest bin, and a tick for a side. */
    static PrintRoom fullOfPaper() {
        PrintRoom x = new PrintRoom();
        for (int tray = 0; tray < 4; tray++) {
            x.fill(tray, 500);
        }
        x.set(BIN, 1000);
        x.set(SIDE, 1);
        return x;
    }

    /**
     * A machine with something to change everywhere. A sheet of job 0 is under way, in its third tick of five; the
     * staying job 0 is ahead of job 2, which has a greater priority, and of the held job 1; the sheets of job 2 are the
     * last ones ahead of the spoiled eighth one. There are a text, a refusal, and two states in the history.
     */
    static PrintRoom busy() {
        PrintRoom x = filled();
        x.load(2, A5, THICK);
        x.fill(2, 20);
        x.fill(3, 7);
        x.set(SPOILING, 8);
        x.job(4, 2, A4, PLAIN, BOTH + GATHER + STAPLE1);
        x.job(2, 2, A4, PLAIN, 0);
        x.job(3, 1, A5, THICK, 0);
        x.job(31, 1, A4, PLAIN, GATHER + STAPLE1);
        x.run(2);
        x.hold(0, 1);
        x.hold(0, 0);
        x.run(5);
        x.priority(2, 9);
        x.hold(1, 1);
        x.emptyBin();
        x.run(10);
        write(x, "1p 1c A4 plain;");
        x.emptyBin();
        x.emptyBin();
        x.undo();
        x.undo();
        return x;
    }

    /** The busy machine with a full queue, tray, text and history; the last job is held, too. */
    static PrintRoom busyAndFull() {
        PrintRoom x = busy();
        x.fill(0, 404);
        for (int job = 3; job < 10; job++) {
            x.job(1, 1, A4, PLAIN, 0);
        }
        x.hold(9, 1);
        write(x, "1p 1c A5 film;".repeat(5) + "1p 1c A4 plain;");
        return x;
    }

    /** A machine in which everything is full: the queue, a tray, the bin, the text and the history. */
    static PrintRoom full() {
        PrintRoom x = new PrintRoom();
        x.set(BIN, 1);
        x.fill(0, 500);
        x.job(5, 1, A4, PLAIN, 0);
        x.run(2);
        x.fill(0, 1);
        for (int job = 1; job < 10; job++) {
            x.job(2, 1, A4, PLAIN, job < 5 ? 0 : BOTH);
        }
        write(x, "1p 1c A5 film;".repeat(5) + "1p 1c A4 plain;".repeat(2));
        return x;
    }

    static int write(PrintRoom x, String text) {
        int length = 0;
        for (char sign : text.toCharArray()) {
            length = x.type(sign);
        }
        return length;
    }

    /** Puts another text in the place of the present one. */
    static void rewrite(PrintRoom x, String text) {
        x.clearText();
        write(x, text);
    }

    static void fault(PrintRoom x, String text, int index, int reason) {
        rewrite(x, text);
        due("fault(0) of '" + text + "'", x.fault(0), index);
        due("fault(1) of '" + text + "'", x.fault(1), reason);
    }

    /** The jobs of the queue, in its order, and none behind them. */
    static void queue(String when, PrintRoom x, int... numbers) {
        for (int i = 0; i < numbers.length; i++) {
            due(when + ": place " + i, x.queued(i), numbers[i]);
        }
        due(when + ": not so many", x.queued(numbers.length), MISSING);
    }

    /** All that the machine tells and undo() restores; some 100 calls and 14 for each job. */
    static List<String> told(PrintRoom x) {
        List<String> told = new ArrayList<>();
        for (int what = 0; what < 15; what++) {
            told.add("count(" + what + ") = " + x.count(what));
        }
        for (int what = 0; what < 9; what++) {
            told.add("account(" + what + ") = " + x.account(what));
        }
        for (int i = 0; i < 16; i++) {
            told.add("tray(" + i / 4 + ", " + i % 4 + ") = " + x.tray(i / 4, i % 4));
            told.add("lacking(" + i / 4 + ", " + i % 4 + ") = " + x.lacking(i / 4, i % 4));
        }
        told.add("stop() = " + x.stop());
        tellQueue(x, told);
        for (int index = 0; x.paper(index, 0) >= 0; index++) {
            for (int what = 0; what < 3; what++) {
                told.add("paper(" + index + ", " + what + ") = " + x.paper(index, what));
            }
        }
        return told;
    }

    private static void tellQueue(PrintRoom x, List<String> told) {
        for (int place = 0; x.queued(place) >= 0; place++) {
            int job = x.queued(place);
            told.add("queued(" + place + ") = " + job);
            told.add("ticksTo(" + job + ") = " + x.ticksTo(job));
            for (int what = 0; what < 13; what++) {
                told.add("jobInfo(" + job + ", " + what + ") = " + x.jobInfo(job, what));
            }
        }
    }

    /** What undo() does not restore. */
    static List<String> toldBesides(PrintRoom x) {
        List<String> told = new ArrayList<>();
        told.add("count(15) = " + x.count(15));
        told.add("count(16) = " + x.count(16));
        told.add("fault(0) = " + x.fault(0));
        told.add("fault(1) = " + x.fault(1));
        told.add("refusal() = " + x.refusal());
        return told;
    }

    static void same(String what, List<String> now, List<String> before) {
        due(what + ": as many answers", now.size(), before.size());
        for (int i = 0; i < Math.min(now.size(), before.size()); i++) {
            CHECKS.holds(what + ": " + now.get(i) + ", due is " + before.get(i), now.get(i).equals(before.get(i)));
        }
    }
}
