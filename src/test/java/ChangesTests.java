import java.util.Map;
import java.util.Set;
import java.util.TreeMap;
import java.util.TreeSet;
import java.util.stream.Stream;

/**
 * What each call changes, and that it changes nothing else: of all answers that a machine gives before the call and behind
 * it, those that differ are the ones that are told here.
 */
public final class ChangesTests extends RoomChecks {
    private static final String[] NONE = {};
    private static final String[] NO_WORK = {"count(5) = 0", "count(6) = 0", "count(7) = -4"};

    private ChangesTests() {
    }

    public static void main(String[] args) {
        trays();
        staplesAndBin();
        settings();
        jobs();
        refusedJob();
        hold();
        cancel();
        priority();
        texts();
        ticksOfSheets();
        ticksOfStapling();
        lastTicks();
        staplingOfNoTicks();
        staplingOfNoTicksAmidJob();
        spoiledSheets();
        severalTicks();
        stops();
        stopsChangeNothingLater();
        CHECKS.end("ChangesTests");
    }

    /** The call is a change: a state more. */
    private static void changes(String name, Maker maker, Call call, int answer, String[]... due) {
        differences(name, maker, call, answer, 1, due);
    }

    private static void differences(String name, Maker maker, Call call, int answer, int states, String[]... due) {
        PrintRoom x = maker.make();
        Map<String, String> before = answers(x);
        int statesBefore = x.count(15);
        due(name, call.on(x), answer);
        due(name + ": states", x.count(15), Math.min(4, statesBefore + states));
        Set<String> different = new TreeSet<>();
        Map<String, String> behind = answers(x);
        for (String question : behind.keySet()) {
            if (!behind.get(question).equals(before.remove(question))) {
                different.add(question + " = " + behind.get(question));
            }
        }
        for (String question : before.keySet()) {
            different.add("no " + question);
        }
        Set<String> all = new TreeSet<>();
        Stream.of(due).forEach(some -> all.addAll(Set.of(some)));
        CHECKS.holds(name + " changed " + different + ", due is " + all, different.equals(all));
    }

    /** All questions and their answers, but for the states of the history. */
    private static Map<String, String> answers(PrintRoom x) {
        Map<String, String> answers = new TreeMap<>();
        Stream.concat(told(x).stream(), toldBesides(x).stream()).forEach(line -> {
            String[] parts = line.split(" = ");
            answers.put(parts[0], parts[1]);
        });
        answers.remove("count(15)");
        return answers;
    }

    private static String[] now(String... lines) {
        return lines;
    }

    /** The job tells nothing any more, and the queue has a place less. */
    private static String[] gone(int job, int place) {
        String[] lines = new String[15];
        lines[0] = "no queued(" + place + ")";
        lines[1] = "no ticksTo(" + job + ")";
        for (int what = 0; what < 13; what++) {
            lines[2 + what] = "no jobInfo(" + job + ", " + what + ")";
        }
        return lines;
    }

    private static String[] come(int job, int ticksTo, int... properties) {
        String[] lines = new String[14];
        lines[0] = "ticksTo(" + job + ") = " + ticksTo;
        for (int what = 0; what < 13; what++) {
            lines[1 + what] = "jobInfo(" + job + ", " + what + ") = " + properties[what];
        }
        return lines;
    }

    private static void busy(String name, Call call, int answer, String... due) {
        changes(name, RoomChecks::busy, call, answer, due);
    }

    /** The busy machine after more ticks, all in one run. */
    private static Maker later(int ticks) {
        return () -> {
            PrintRoom x = busy();
            x.run(ticks);
            return x;
        };
    }

    private static void trays() {
        busy("fill(2, 5)", x -> x.fill(2, 5), 25, "tray(2, 2) = 25", "tray(2, 3) = 25");
        busy("fill(0, 10)", x -> x.fill(0, 10), 106,
            "tray(0, 2) = 106", "tray(0, 3) = 113", "tray(1, 3) = 113", "tray(3, 3) = 113");
        busy("load(2, A4, PLAIN)", x -> x.load(2, A4, PLAIN), 20, "tray(2, 0) = 1", "tray(2, 1) = 0",
            "tray(2, 2) = 0", "tray(2, 3) = 103", "lacking(0, 1) = 3", "ticksTo(2) = -4");
        busy("load(0, A3, FILM)", x -> x.load(0, A3, FILM), 96, "tray(0, 0) = 2", "tray(0, 1) = 3",
            "tray(0, 2) = 0", "tray(0, 3) = 0", "tray(1, 3) = 7", "tray(3, 3) = 7");
        busy("load of the same paper", x -> x.load(3, A4, PLAIN), 7,
            "tray(3, 2) = 0", "tray(3, 3) = 96", "tray(0, 3) = 96", "tray(1, 3) = 96");
        busy("load of an empty tray", x -> x.load(1, A4, PLAIN), 0);
    }

    private static void staplesAndBin() {
        busy("staples(7)", x -> x.staples(7), 99, "count(4) = 7");
        busy("staples(0)", x -> x.staples(0), 99, "count(4) = 0", "ticksTo(0) = -4", "ticksTo(2) = -4");
        busy("staples as they are", x -> x.staples(99), 99);
        busy("emptyBin()", x -> x.emptyBin(), 1, "count(3) = 0");
        changes("emptyBin() of an empty one", PrintRoom::new, x -> x.emptyBin(), 0, NONE);
    }

    private static void settings() {
        busy("longer sides", x -> x.set(SIDE, 5), 2, "count(8) = 5", "ticksTo(0) = 17", "ticksTo(2) = 32");
        busy("no turning", x -> x.set(TURN, 0), 1, "count(9) = 0", "ticksTo(0) = 10", "ticksTo(2) = 16");
        busy("longer stapling", x -> x.set(STAPLING, 9), 3, "count(10) = 9", "ticksTo(0) = 17", "ticksTo(2) = 23");
        busy("stapling at once", x -> x.set(STAPLING, 0), 3, "count(10) = 0", "ticksTo(0) = 9", "ticksTo(2) = 14");
        busy("another limit", x -> x.set(SETLIMIT, 2), 30, "count(11) = 2");
        busy("more spoiling", x -> x.set(SPOILING, 2), 8, "count(12) = 2", "ticksTo(0) = 16", "ticksTo(2) = 28");
        busy("no spoiling", x -> x.set(SPOILING, 0), 8, "count(12) = 0");
        busy("a small bin", x -> x.set(BIN, 2), 250, "count(13) = 2", "ticksTo(0) = -4", "ticksTo(2) = -4");
        busy("a setting as it is", x -> x.set(SIDE, 2), 2);
    }

    private static void jobs() {
        changes("job", RoomChecks::busy, x -> x.job(7, 1, A3, FILM, BOTH), 3,
            now("count(0) = 4", "count(2) = 4", "lacking(2, 3) = 4", "queued(2) = 3", "queued(3) = 1"),
            come(3, MISSING, 7, 1, A3, FILM, BOTH, 0, 0, 4, 4, 0, 0, 0, 0));
        changes("enter", RoomChecks::busy, x -> x.enter(), 1,
            now("count(0) = 4", "count(2) = 4", "queued(2) = 3", "queued(3) = 1"),
            come(3, 21, 1, 1, A4, PLAIN, 0, 0, 0, 1, 1, 0, 0, 0, 0));
        Maker emptied = () -> {
            PrintRoom x = busy();
            x.clearText();
            return x;
        };
        changes("enter of an empty text", emptied, x -> x.enter(), 0, NONE);
    }

    private static void refusedJob() {
        differences("a refused job", RoomChecks::busy, x -> x.job(5, 1, A4, FILM, GATHER + STAPLE1), IMPOSSIBLE, 0,
            now("refusal() = 2"));
        differences("a wrong job", RoomChecks::busy, x -> x.job(201, 1, A4, FILM, GATHER + STAPLE1), INVALID, 0, NONE);
    }

    private static void hold() {
        changes("hold the one under way", RoomChecks::busy, x -> x.hold(0, 1), 0, NO_WORK,
            now("count(1) = 2", "account(2) = 2", "queued(0) = 2", "queued(1) = 0", "jobInfo(0, 6) = 1",
                "ticksTo(0) = -4", "ticksTo(2) = 6"));
        busy("let it go on, which it does", x -> x.hold(0, 0), 0);
        busy("hold one that waits", x -> x.hold(2, 1), 0, "count(1) = 2", "jobInfo(2, 6) = 1", "ticksTo(2) = -4");
        busy("let the held one go on", x -> x.hold(1, 0), 1, "count(1) = 0", "jobInfo(1, 6) = 0", "ticksTo(1) = 27");
        busy("hold the held one", x -> x.hold(1, 1), 1);
        changes("hold the one that is stapled", later(9), x -> x.hold(0, 1), 0, NO_WORK,
            now("count(1) = 2", "queued(0) = 2", "queued(1) = 0", "jobInfo(0, 6) = 1", "ticksTo(0) = -4", "ticksTo(2) = 6"));
        changes("hold one between its sheets", later(3), x -> x.hold(0, 1), 0,
            now("count(1) = 2", "queued(0) = 2", "queued(1) = 0", "jobInfo(0, 6) = 1", "ticksTo(0) = -4", "ticksTo(2) = 6"));
    }

    private static void cancel() {
        changes("cancel the one under way", RoomChecks::busy, x -> x.cancel(0), 2, NO_WORK, gone(0, 2),
            now("count(0) = 2", "account(2) = 2", "account(6) = 1", "queued(0) = 2", "queued(1) = 1", "ticksTo(2) = 6"));
        changes("cancel the held one", RoomChecks::busy, x -> x.cancel(1), 0, gone(1, 2),
            now("count(0) = 2", "count(1) = 0", "account(6) = 1"));
        changes("cancel one that waits", RoomChecks::busy, x -> x.cancel(2), 0, gone(2, 2),
            now("count(0) = 2", "account(6) = 1", "queued(1) = 1"));
        changes("cancel the one that is stapled", later(9), x -> x.cancel(0), 4, NO_WORK, gone(0, 2),
            now("count(0) = 2", "account(6) = 1", "queued(0) = 2", "queued(1) = 1", "ticksTo(2) = 6"));
        changes("cancel one whose sheets all are printed", later(8), x -> x.cancel(0), 4, gone(0, 2),
            now("count(0) = 2", "account(6) = 1", "queued(0) = 2", "queued(1) = 1", "ticksTo(2) = 6"));
    }

    private static void priority() {
        busy("priority of the one under way", x -> x.priority(0, 9), 0, "jobInfo(0, 5) = 9");
        busy("priority of the held one", x -> x.priority(1, 5), 0, "jobInfo(1, 5) = 5");
        busy("priority of one that waits", x -> x.priority(2, 0), 9, "jobInfo(2, 5) = 0");
        busy("priority as it is", x -> x.priority(2, 9), 9);
    }

    private static void texts() {
        differences("type", RoomChecks::busy, x -> x.type('x'), 16, 0, now("count(16) = 16", "fault(0) = 15", "fault(1) = 1"));
        differences("clearText", RoomChecks::busy, x -> x.clearText(), 15, 0, now("count(16) = 0"));
        Maker full = () -> {
            PrintRoom x = busy();
            for (int job = 3; job < 10; job++) {
                x.job(1, 1, A4, PLAIN, 0);
            }
            x.hold(9, 1);
            return x;
        };
        differences("clearText of a fault", full, x -> x.clearText(), 15, 0,
            now("count(16) = 0", "fault(0) = -4", "fault(1) = -4"));
        changes("cancel makes room for the text's job", full, x -> x.cancel(9), 0, gone(9, 9),
            now("count(0) = 9", "count(1) = 1", "account(6) = 1", "fault(0) = -4", "fault(1) = -4"));
    }

    private static void ticksOfSheets() {
        busy("a tick of a sheet", x -> x.run(1), 0, "count(5) = 2", "account(8) = 18", "ticksTo(0) = 10", "ticksTo(2) = 16");
        changes("the last tick of a sheet", later(2), x -> x.run(1), 1, NO_WORK,
            now("count(3) = 2", "account(1) = 3", "account(3) = 6", "account(8) = 20", "jobInfo(0, 9) = 3",
                "jobInfo(0, 11) = 1", "ticksTo(0) = 8", "ticksTo(2) = 14"));
        changes("a sheet is begun", later(3), x -> x.run(1), 0,
            now("count(5) = 4", "count(6) = 1", "count(7) = 0", "account(0) = 5", "account(8) = 21", "tray(0, 2) = 95",
                "tray(0, 3) = 102", "tray(1, 3) = 102", "tray(3, 3) = 102", "paper(0, 2) = 5",
                "ticksTo(0) = 7", "ticksTo(2) = 13"));
        changes("the last tick of the last sheet", later(7), x -> x.run(1), 1, NO_WORK,
            now("count(3) = 3", "account(1) = 4", "account(3) = 8", "account(8) = 25", "jobInfo(0, 9) = 4",
                "jobInfo(0, 11) = -4", "jobInfo(0, 12) = -4", "ticksTo(0) = 3", "ticksTo(2) = 9"));
        changes("the first sheet of another job, of another paper", later(11), x -> x.run(1), 0,
            now("count(5) = 1", "count(6) = 1", "count(7) = 2", "count(14) = 2", "account(0) = 6", "account(8) = 29",
                "tray(2, 2) = 19", "tray(2, 3) = 19", "paper(1, 0) = 0", "paper(1, 1) = 1", "paper(1, 2) = 1",
                "ticksTo(2) = 5"));
        changes("the last tick of a sheet of one side", later(12), x -> x.run(1), 1, NO_WORK,
            now("count(3) = 4", "account(1) = 5", "account(3) = 9", "account(8) = 30", "jobInfo(2, 9) = 1",
                "jobInfo(2, 11) = 1", "ticksTo(2) = 4"));
    }

    private static void ticksOfStapling() {
        changes("a stapling is begun", later(8), x -> x.run(1), 0,
            now("count(5) = 2", "count(6) = 2", "count(7) = 0", "account(8) = 26", "ticksTo(0) = 2", "ticksTo(2) = 8"));
        changes("a tick of a stapling", later(9), x -> x.run(1), 0,
            now("count(5) = 1", "account(8) = 27", "ticksTo(0) = 1", "ticksTo(2) = 7"));
        changes("the last tick of the last stapling", later(10), x -> x.run(1), 0, NO_WORK, gone(0, 2),
            now("count(0) = 2", "count(4) = 98", "account(4) = 2", "account(5) = 1", "account(8) = 28",
                "queued(0) = 2", "queued(1) = 1", "ticksTo(2) = 6"));
        Maker firstSet = () -> {
            PrintRoom x = filled();
            x.job(2, 2, A4, PLAIN, GATHER + STAPLE2);
            x.run(6);
            return x;
        };
        changes("the last tick of a stapling", firstSet, x -> x.run(1), 0, NO_WORK,
            now("count(4) = 98", "account(4) = 2", "account(8) = 7", "jobInfo(0, 10) = 1", "ticksTo(0) = 7"));
    }

    private static void lastTicks() {
        changes("the last tick of a job", later(16), x -> x.run(1), 1, NO_WORK, gone(2, 1),
            now("count(0) = 1", "count(3) = 6", "account(1) = 7", "account(3) = 11", "account(5) = 2", "account(8) = 34",
                "queued(0) = 1", "stop() = 1"));
        changes("a tick that stops", later(17), x -> x.run(1), 0, now("account(7) = 1", "account(8) = 35"));
        Maker twoSheets = () -> {
            PrintRoom x = new PrintRoom();
            x.fill(0, 2);
            x.job(3, 1, A4, PLAIN, 0);
            x.run(3);
            return x;
        };
        changes("the last tick ahead of a stop", twoSheets, x -> x.run(1), 1, NO_WORK,
            now("count(3) = 2", "account(1) = 2", "account(3) = 2", "account(8) = 4", "jobInfo(0, 9) = 2",
                "jobInfo(0, 11) = 2", "stop() = 2"));
    }

    private static void staplingOfNoTicks() {
        Maker thenSheet = () -> {
            PrintRoom x = busy();
            x.set(STAPLING, 0);
            x.run(8);
            return x;
        };
        changes("a stapling of no ticks, then a sheet", thenSheet, x -> x.run(1), 0, gone(0, 2),
            now("count(0) = 2", "count(4) = 98", "count(5) = 1", "count(6) = 1", "count(7) = 2", "count(14) = 2",
                "account(0) = 6", "account(4) = 2", "account(5) = 1", "account(8) = 26", "tray(2, 2) = 19",
                "tray(2, 3) = 19", "paper(1, 0) = 0", "paper(1, 1) = 1", "paper(1, 2) = 1", "queued(0) = 2",
                "queued(1) = 1", "ticksTo(2) = 5"));
        Maker thenStop = () -> {
            PrintRoom x = busy();
            x.set(STAPLING, 0);
            x.hold(2, 1);
            x.run(8);
            return x;
        };
        changes("a stapling of no ticks, then a stop", thenStop, x -> x.run(1), 0, gone(0, 2),
            now("count(0) = 2", "count(4) = 98", "account(4) = 2", "account(5) = 1", "account(7) = 1", "account(8) = 26",
                "queued(0) = 2", "queued(1) = 1"));
    }

    private static void staplingOfNoTicksAmidJob() {
        Maker firstSet = () -> {
            PrintRoom x = filled();
            x.set(STAPLING, 0);
            x.job(2, 2, A4, PLAIN, GATHER + STAPLE1);
            x.job(1, 1, A4, PLAIN, 0);
            x.run(4);
            x.priority(1, 9);
            return x;
        };
        changes("a stapling of no ticks, then the same job's next sheet", firstSet, x -> x.run(1), 0,
            now("count(4) = 99", "count(5) = 1", "count(6) = 1", "count(7) = 0", "account(0) = 3", "account(4) = 1",
                "account(8) = 5", "tray(0, 2) = 97", "tray(0, 3) = 97", "tray(1, 3) = 97", "tray(2, 3) = 97",
                "tray(3, 3) = 97", "paper(0, 2) = 3", "jobInfo(0, 10) = 1", "ticksTo(0) = 4", "ticksTo(1) = 5"));
        Maker noPaper = () -> {
            PrintRoom x = firstSet.make();
            x.load(0, A4, PLAIN);
            return x;
        };
        changes("a stapling of no ticks, then no paper", noPaper, x -> x.run(1), 0,
            now("count(4) = 99", "account(4) = 1", "account(7) = 1", "account(8) = 5", "jobInfo(0, 10) = 1"));
    }

    private static void spoiledSheets() {
        Maker ahead = () -> {
            PrintRoom x = busy();
            x.hold(1, 0);
            x.run(18);
            return x;
        };
        changes("the last tick of a spoiled sheet", ahead, x -> x.run(1), 0, NO_WORK,
            now("account(2) = 2", "account(8) = 36", "ticksTo(1) = 8"));
        Maker behind = () -> {
            PrintRoom x = ahead.make();
            x.run(1);
            return x;
        };
        changes("it is begun again", behind, x -> x.run(1), 0,
            now("count(5) = 1", "count(6) = 1", "count(7) = 1", "account(0) = 10", "account(8) = 37", "tray(0, 2) = 93",
                "tray(0, 3) = 100", "tray(1, 3) = 100", "tray(3, 3) = 100", "paper(0, 2) = 7", "ticksTo(1) = 7"));
        busy("spoiling is asked for at the end of a sheet", x -> x.set(SPOILING, 3), 8,
            "count(12) = 3", "ticksTo(0) = 16", "ticksTo(2) = 26");
    }

    private static void severalTicks() {
        changes("all that is to be done", RoomChecks::busy, x -> x.run(100), 5, NO_WORK, gone(0, 2), gone(2, 1),
            now("count(0) = 1", "count(3) = 6", "count(4) = 98", "count(14) = 2", "account(0) = 8", "account(1) = 7",
                "account(3) = 11", "account(4) = 2", "account(5) = 2", "account(7) = 83", "account(8) = 117",
                "tray(0, 2) = 95", "tray(0, 3) = 102", "tray(1, 3) = 102", "tray(3, 3) = 102", "tray(2, 2) = 17",
                "tray(2, 3) = 17", "paper(0, 2) = 5", "paper(1, 0) = 0", "paper(1, 1) = 1", "paper(1, 2) = 3",
                "queued(0) = 1", "stop() = 1"));
    }

    /** The busy machine as it stops for a reason; but for the first one, the staying job 0 waits for something. */
    private static PrintRoom stopped(int reason) {
        PrintRoom x = busy();
        switch (reason) {
            case 1 -> {
                x.hold(0, 1);
                x.hold(2, 1);
            }
            case 2 -> {
                x.load(0, A4, PLAIN);
                x.load(3, A4, PLAIN);
                x.run(3);
            }
            case 3 -> {
                x.set(BIN, 2);
                x.run(3);
            }
            default -> {
                x.staples(0);
                x.run(8);
            }
        }
        due("stopped", x.stop(), reason);
        return x;
    }

    private static void stops() {
        int[] ticks = {17, 20, 20, 25};
        for (int reason = 1; reason <= 4; reason++) {
            int due = reason;
            String all = "account(8) = " + (ticks[reason - 1] + 3);
            changes("stop for " + reason, () -> stopped(due), x -> x.run(3), 0, now("account(7) = 3", all));
        }
    }

    /** What it waits for comes: it goes on as if it had not stopped. */
    private static int goOn(PrintRoom x, int reason) {
        return switch (reason) {
            case 1 -> x.hold(2, 0);
            case 2 -> x.fill(0, 50);
            case 3 -> x.emptyBin();
            default -> x.staples(50);
        };
    }

    private static void stopsChangeNothingLater() {
        for (int reason = 1; reason <= 4; reason++) {
            PrintRoom x = stopped(reason);
            PrintRoom twin = stopped(reason);
            x.run(3);
            due("a stop for " + reason + ", then", goOn(x, reason), goOn(twin, reason));
            Map<String, String> got = answers(x);
            Map<String, String> due = answers(twin);
            due.put("account(7)", "3");
            due.put("account(8)", String.valueOf(twin.account(8) + 3));
            CHECKS.holds("a stop for " + reason + ": " + got + ", due is " + due, got.equals(due));
            due("a stop for " + reason + ": it works again", x.stop(), 0);
            due("a stop for " + reason + ": the staying job is ahead", x.queued(0), reason == 1 ? 2 : 0);
        }
    }
}
