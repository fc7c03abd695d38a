/**
 * The queue of a printing machine. Every call answers with a number; the negative ones are the errors below.
 * All that undo() restores is in one {@link Machine}, so that a state is recorded, restored or tried out by
 * copying it into another one that was made ahead: no call makes an object.
 */
public final class PrintRoom {
    public static final int INVALID_ARGUMENT = -1;
    public static final int NOT_POSSIBLE = -2;
    public static final int LIMIT_REACHED = -3;
    public static final int NOT_FOUND = -4;

    private static final int TRAYS = 4;
    private static final int SIZES = 4;
    private static final int KINDS = 4;
    private static final int PAPERS = SIZES * KINDS;
    private static final int THICK = 1;
    private static final int FILM = 3;
    private static final int MOST_IN_TRAY = 500;

    private static final int MOST_JOBS = 10;
    private static final int MOST_PAGES = 200;
    private static final int MOST_COPIES = 50;
    private static final int MOST_PRIORITY = 9;
    private static final int BOTH_SIDES = 1;
    private static final int GATHERED = 2;
    private static final int ONE_STAPLE = 4;
    private static final int TWO_STAPLES = 8;
    // Both of the staple signs together would begin at 12.
    private static final int MOST_HOW = 11;
    private static final int JOB_PROPERTIES = 13;

    private static final int SIDE_TICKS = 0;
    private static final int TURN_TICKS = 1;
    private static final int STAPLE_TICKS = 2;
    private static final int STAPLE_LIMIT = 3;
    private static final int SPOILING = 4;
    private static final int BIN_ROOM = 5;
    private static final int SETTINGS = 6;
    private static final int[] LEAST_SETTING = {1, 0, 0, 2, 0, 1};
    private static final int[] GREATEST_SETTING = {20, 20, 20, 100, 500, 1000};
    private static final int[] FIRST_SETTING = {2, 1, 3, 30, 0, 250};
    private static final int MOST_STAPLES = 5000;
    private static final int FIRST_STAPLES = 100;

    private static final int NO_WORK = 0;
    private static final int SHEET_WORK = 1;
    private static final int STAPLE_WORK = 2;

    private static final int STOP_NO_JOB = 1;
    private static final int STOP_NO_PAPER = 2;
    private static final int STOP_BIN_FULL = 3;
    private static final int STOP_NO_STAPLES = 4;

    private static final int TAKEN = 0;
    private static final int BINNED = 1;
    private static final int SPOILED = 2;
    private static final int SIDES = 3;
    private static final int STAPLED = 4;
    private static final int FINISHED = 5;
    private static final int CANCELLED = 6;
    private static final int STOPPED = 7;
    private static final int TICKS = 8;
    private static final int ACCOUNTS = 9;

    private static final int MOST_RUN = 5000;
    private static final int MOST_TICKS = 1000000;
    private static final int MOST_FORETOLD = 20000;
    private static final int MOST_STATES = 4;
    private static final int COUNTS = 17;
    private static final int MOST_CHARACTERS = 100;

    private static final int FORM_FAULT = 1;
    private static final int RANGE_FAULT = 2;
    private static final int STAPLE_FAULT = 3;
    private static final int ROOM_FAULT = 4;

    private final Machine machine = new Machine();
    private final Machine trial = new Machine();
    private final History history = new History();
    private final JobText text = new JobText();
    private final Job draft = new Job();
    private int refusalReason;

    /** Creates a machine with empty trays and an empty queue. */
    public PrintRoom() {
    }

    // ---- trays

    public int fill(int tray, int sheets) {
        if (!isBelow(tray, TRAYS) || !isWithin(sheets, 1, MOST_IN_TRAY)) {
            return INVALID_ARGUMENT;
        }
        int filled = machine.trays.sheets[tray] + sheets;
        if (filled > MOST_IN_TRAY) {
            return LIMIT_REACHED;
        }
        history.keep(machine);
        machine.trays.sheets[tray] = filled;
        return filled;
    }

    public int load(int tray, int size, int kind) {
        if (!isBelow(tray, TRAYS) || !isPaper(size, kind)) {
            return INVALID_ARGUMENT;
        }
        history.keep(machine);
        return machine.trays.change(tray, size, kind);
    }

    public int tray(int tray, int what) {
        if (!isBelow(tray, TRAYS)) {
            return INVALID_ARGUMENT;
        }
        Trays trays = machine.trays;
        switch (what) {
            case 0: return trays.sizes[tray];
            case 1: return trays.kinds[tray];
            case 2: return trays.sheets[tray];
            case 3: return trays.sheetsOf(trays.sizes[tray], trays.kinds[tray]);
            default: return INVALID_ARGUMENT;
        }
    }

    public int staples(int staples) {
        if (!isWithin(staples, 0, MOST_STAPLES)) {
            return INVALID_ARGUMENT;
        }
        history.keep(machine);
        int previous = machine.staplesLeft;
        machine.staplesLeft = staples;
        return previous;
    }

    public int emptyBin() {
        history.keep(machine);
        int emptied = machine.bin;
        machine.bin = 0;
        return emptied;
    }

    public int set(int what, int value) {
        if (!isBelow(what, SETTINGS) || !isWithin(value, LEAST_SETTING[what], GREATEST_SETTING[what])) {
            return INVALID_ARGUMENT;
        }
        history.keep(machine);
        int previous = machine.settings[what];
        machine.settings[what] = value;
        return previous;
    }

    // ---- jobs

    public int job(int pages, int copies, int size, int kind, int how) {
        if (!isPaper(size, kind) || !isWithin(how, 0, MOST_HOW)) {
            return INVALID_ARGUMENT;
        }
        draft.describe(pages, copies, size, kind, how);
        if (!draft.isInRange()) {
            return INVALID_ARGUMENT;
        }
        int reason = draft.staplingRefusal(machine.settings[STAPLE_LIMIT]);
        if (reason != 0) {
            refusalReason = reason;
            return NOT_POSSIBLE;
        }
        if (machine.queue.room() < 1) {
            return LIMIT_REACHED;
        }
        history.keep(machine);
        return machine.queue.append(draft);
    }

    public int refusal() {
        return refusalReason == 0 ? NOT_FOUND : refusalReason;
    }

    public int hold(int job, int held) {
        if (job < 0 || !isWithin(held, 0, 1)) {
            return INVALID_ARGUMENT;
        }
        Job found = machine.queue.find(job);
        if (found == null) {
            return NOT_FOUND;
        }
        history.keep(machine);
        int previous = found.held ? 1 : 0;
        found.held = held == 1;
        if (found.held) {
            machine.interrupt(found);
        }
        return previous;
    }

    public int cancel(int job) {
        if (job < 0) {
            return INVALID_ARGUMENT;
        }
        Job found = machine.queue.find(job);
        if (found == null) {
            return NOT_FOUND;
        }
        history.keep(machine);
        int printed = found.printed;
        machine.interrupt(found);
        machine.queue.remove(found);
        machine.ledger.add(CANCELLED, 1);
        return printed;
    }

    public int priority(int job, int value) {
        if (job < 0 || !isWithin(value, 0, MOST_PRIORITY)) {
            return INVALID_ARGUMENT;
        }
        Job found = machine.queue.find(job);
        if (found == null) {
            return NOT_FOUND;
        }
        history.keep(machine);
        int previous = found.priority;
        found.priority = value;
        return previous;
    }

    public int jobInfo(int job, int what) {
        if (job < 0 || !isBelow(what, JOB_PROPERTIES)) {
            return INVALID_ARGUMENT;
        }
        Job found = machine.queue.find(job);
        return found == null ? NOT_FOUND : found.property(what);
    }

    public int queued(int place) {
        if (place < 0) {
            return INVALID_ARGUMENT;
        }
        Job found = machine.queue.at(place);
        return found == null ? NOT_FOUND : found.number;
    }

    // ---- running

    public int run(int ticks) {
        if (!isWithin(ticks, 1, MOST_RUN)) {
            return INVALID_ARGUMENT;
        }
        if (machine.ledger.accounts[TICKS] + ticks > MOST_TICKS) {
            return LIMIT_REACHED;
        }
        history.keep(machine);
        int before = machine.ledger.accounts[BINNED];
        machine.letGoBy(ticks);
        return machine.ledger.accounts[BINNED] - before;
    }

    public int stop() {
        trial.copyFrom(machine);
        return trial.findWork();
    }

    public int count(int what) {
        if (!isBelow(what, COUNTS)) {
            return INVALID_ARGUMENT;
        }
        switch (what) {
            case 0: return machine.queue.size;
            case 1: return machine.queue.heldJobs();
            case 2: return machine.queue.nextNumber;
            case 3: return machine.bin;
            case 4: return machine.staplesLeft;
            case 5: return machine.workTicks;
            case 6: return machine.work;
            case 7: return machine.work == NO_WORK ? NOT_FOUND : machine.workJob;
            case 14: return machine.ledger.papers;
            case 15: return history.states;
            case 16: return text.length;
            default: return settingAt(what - 8);
        }
    }

    public int account(int what) {
        return isBelow(what, ACCOUNTS) ? machine.ledger.accounts[what] : INVALID_ARGUMENT;
    }

    public int paper(int index, int what) {
        if (index < 0 || !isWithin(what, 0, 2)) {
            return INVALID_ARGUMENT;
        }
        Ledger ledger = machine.ledger;
        if (index >= ledger.papers || index >= PAPERS) {
            return NOT_FOUND;
        }
        switch (what) {
            case 0: return ledger.paperSizes[index];
            case 1: return ledger.paperKinds[index];
            default: return ledger.paperSheets[index];
        }
    }

    public int lacking(int size, int kind) {
        return isPaper(size, kind) ? machine.lackingSheets(size, kind) : INVALID_ARGUMENT;
    }

    public int ticksTo(int job) {
        if (job < 0) {
            return INVALID_ARGUMENT;
        }
        if (machine.queue.find(job) == null) {
            return NOT_FOUND;
        }
        trial.copyFrom(machine);
        return trial.ticksUntilGone(job);
    }

    public int undo() {
        return history.restore(machine) ? history.states : NOT_POSSIBLE;
    }

    // ---- texts

    public int type(int character) {
        if (!isWithin(character, 32, 126)) {
            return INVALID_ARGUMENT;
        }
        if (text.length >= MOST_CHARACTERS) {
            return LIMIT_REACHED;
        }
        text.append((char) character);
        return text.length;
    }

    public int clearText() {
        int length = text.length;
        text.length = 0;
        return length;
    }

    public int fault(int what) {
        if (!isWithin(what, 0, 1)) {
            return INVALID_ARGUMENT;
        }
        text.examine(draft, machine);
        if (text.faultReason == 0) {
            return NOT_FOUND;
        }
        return what == 0 ? text.faultPlace : text.faultReason;
    }

    public int enter() {
        text.examine(draft, machine);
        if (text.faultReason != 0) {
            return NOT_POSSIBLE;
        }
        history.keep(machine);
        int jobs = text.jobs;
        text.place = 0;
        for (int i = 0; i < jobs; i++) {
            if (text.readJob(draft)) {
                machine.queue.append(draft);
            }
        }
        return jobs;
    }

    private int settingAt(int what) {
        return isBelow(what, SETTINGS) ? machine.settings[what] : INVALID_ARGUMENT;
    }

    private static boolean isWithin(int value, int least, int greatest) {
        return value >= least && value <= greatest;
    }

    private static boolean isBelow(int value, int bound) {
        return value >= 0 && value < bound;
    }

    private static boolean isPaper(int size, int kind) {
        return isBelow(size, SIZES) && isBelow(kind, KINDS);
    }

    /** A job, with what of it is printed and stapled. */
    private static final class Job {
        int number;
        int pages;
        int copies;
        int size;
        int kind;
        int how;
        // These five follow from what stands above.
        boolean onBothSides;
        boolean gathered;
        int staplesOfSet;
        int sheetsOfSet;
        int sheetsInAll;
        int priority;
        boolean held;
        int printed;
        int stapledSets;

        /** Makes it a job of which nothing is printed yet; its number is the queue's to give. */
        void describe(int newPages, int newCopies, int newSize, int newKind, int newHow) {
            pages = newPages;
            copies = newCopies;
            size = newSize;
            kind = newKind;
            how = newHow;
            onBothSides = (how & BOTH_SIDES) != 0;
            gathered = (how & GATHERED) != 0;
            staplesOfSet = (how & TWO_STAPLES) != 0 ? 2 : (how & ONE_STAPLE) != 0 ? 1 : 0;
            sheetsOfSet = onBothSides ? (pages + 1) / 2 : pages;
            sheetsInAll = sheetsOfSet * copies;
            priority = 0;
            held = false;
            printed = 0;
            stapledSets = 0;
        }

        void copyFrom(Job other) {
            number = other.number;
            pages = other.pages;
            copies = other.copies;
            size = other.size;
            kind = other.kind;
            how = other.how;
            onBothSides = other.onBothSides;
            gathered = other.gathered;
            staplesOfSet = other.staplesOfSet;
            sheetsOfSet = other.sheetsOfSet;
            sheetsInAll = other.sheetsInAll;
            priority = other.priority;
            held = other.held;
            printed = other.printed;
            stapledSets = other.stapledSets;
        }

        boolean isInRange() {
            return isWithin(pages, 1, MOST_PAGES) && isWithin(copies, 1, MOST_COPIES);
        }

        boolean isOn(int paperSize, int paperKind) {
            return size == paperSize && kind == paperKind;
        }

        /** The reason for which it is to be stapled and cannot be, 0 if there is none. */
        int staplingRefusal(int limit) {
            if (staplesOfSet == 0) {
                return 0;
            }
            if (!gathered) {
                return 1;
            }
            if (kind == FILM) {
                return 2;
            }
            if (sheetsOfSet == 1) {
                return 3;
            }
            int most = kind == THICK ? limit / 2 : limit;
            return sheetsOfSet > most ? 4 : 0;
        }

        /** Only gathered jobs are stapled, so their printed sets are whole ones, one after another. */
        boolean hasSetToStaple() {
            return staplesOfSet > 0 && sheetsOfSet > 0 && stapledSets < printed / sheetsOfSet;
        }

        boolean isFinished() {
            return printed >= sheetsInAll && (staplesOfSet == 0 || stapledSets >= copies);
        }

        int nextSheet() {
            if (printed >= sheetsInAll || sheetsOfSet < 1 || copies < 1) {
                return NOT_FOUND;
            }
            return gathered ? printed % sheetsOfSet : printed / copies;
        }

        int nextCopy() {
            if (printed >= sheetsInAll || sheetsOfSet < 1 || copies < 1) {
                return NOT_FOUND;
            }
            return gathered ? printed / sheetsOfSet : printed % copies;
        }

        int sidesOfNextSheet() {
            boolean isLast = nextSheet() == sheetsOfSet - 1;
            return onBothSides && (!isLast || pages % 2 == 0) ? 2 : 1;
        }

        int property(int what) {
            switch (what) {
                case 0: return pages;
                case 1: return copies;
                case 2: return size;
                case 3: return kind;
                case 4: return how;
                case 5: return priority;
                case 6: return held ? 1 : 0;
                case 7: return sheetsOfSet;
                case 8: return sheetsInAll;
                case 9: return printed;
                case 10: return stapledSets;
                case 11: return nextSheet();
                default: return nextCopy();
            }
        }
    }

    /** The jobs that wait, in the order of their numbers; the rows behind the last one are spare. */
    private static final class Queue {
        static final int NONE = -1;

        final Job[] jobs = new Job[MOST_JOBS];
        int size;
        int nextNumber;
        // The job of which a sheet was begun latest, while that keeps it the next one.
        int latest = NONE;

        Queue() {
            for (int i = 0; i < MOST_JOBS; i++) {
                jobs[i] = new Job();
            }
        }

        void copyFrom(Queue other) {
            size = other.size;
            nextNumber = other.nextNumber;
            latest = other.latest;
            for (int i = 0; i < size && i < MOST_JOBS; i++) {
                jobs[i].copyFrom(other.jobs[i]);
            }
        }

        int room() {
            return MOST_JOBS - size;
        }

        /** Takes a copy of a job in; the caller has looked for room. Returns its number. */
        int append(Job job) {
            if (size >= MOST_JOBS) {
                return LIMIT_REACHED;
            }
            Job row = jobs[size];
            row.copyFrom(job);
            row.number = nextNumber;
            size++;
            nextNumber++;
            return row.number;
        }

        Job find(int number) {
            for (int i = 0; i < size && i < MOST_JOBS; i++) {
                if (jobs[i].number == number) {
                    return jobs[i];
                }
            }
            return null;
        }

        /** Takes a job out; its row becomes a spare one. */
        void remove(Job job) {
            int kept = 0;
            for (int i = 0; i < size && i < MOST_JOBS; i++) {
                if (jobs[i] != job) {
                    jobs[kept] = jobs[i];
                    kept++;
                }
            }
            if (kept < size) {
                jobs[kept] = job;
                size = kept;
            }
            if (latest == job.number) {
                latest = NONE;
            }
        }

        int heldJobs() {
            int held = 0;
            for (int i = 0; i < size && i < MOST_JOBS; i++) {
                if (jobs[i].held) {
                    held++;
                }
            }
            return held;
        }

        boolean isAhead(Job one, Job other) {
            if (one.held != other.held) {
                return other.held;
            }
            if (one.number == latest || other.number == latest) {
                return one.number == latest && other.number != latest;
            }
            if (one.priority != other.priority) {
                return one.priority > other.priority;
            }
            return one.number < other.number;
        }

        int jobsAheadOf(Job job) {
            int ahead = 0;
            for (int i = 0; i < size && i < MOST_JOBS; i++) {
                if (isAhead(jobs[i], job)) {
                    ahead++;
                }
            }
            return ahead;
        }

        Job at(int place) {
            for (int i = 0; i < size && i < MOST_JOBS; i++) {
                if (jobsAheadOf(jobs[i]) == place) {
                    return jobs[i];
                }
            }
            return null;
        }

        /** The next job, null if there is none that is not held. */
        Job next() {
            Job first = null;
            for (int i = 0; i < size && i < MOST_JOBS; i++) {
                if (first == null || isAhead(jobs[i], first)) {
                    first = jobs[i];
                }
            }
            return first == null || first.held ? null : first;
        }

        int sheetsToPrint(int paperSize, int paperKind) {
            int sheets = 0;
            for (int i = 0; i < size && i < MOST_JOBS; i++) {
                if (jobs[i].isOn(paperSize, paperKind)) {
                    sheets += jobs[i].sheetsInAll - jobs[i].printed;
                }
            }
            return sheets;
        }
    }

    /** The trays, each with one paper. */
    private static final class Trays {
        static final int NONE = -1;

        final int[] sizes = {1, 1, 1, 1};
        final int[] kinds = new int[TRAYS];
        final int[] sheets = new int[TRAYS];

        void copyFrom(Trays other) {
            System.arraycopy(other.sizes, 0, sizes, 0, TRAYS);
            System.arraycopy(other.kinds, 0, kinds, 0, TRAYS);
            System.arraycopy(other.sheets, 0, sheets, 0, TRAYS);
        }

        /** Gives a tray another paper; returns how many sheets are taken out of it. */
        int change(int tray, int size, int kind) {
            if (!isBelow(tray, TRAYS)) {
                return 0;
            }
            int takenOut = sheets[tray];
            sizes[tray] = size;
            kinds[tray] = kind;
            sheets[tray] = 0;
            return takenOut;
        }

        int sheetsOf(int size, int kind) {
            int sum = 0;
            for (int i = 0; i < TRAYS; i++) {
                if (sizes[i] == size && kinds[i] == kind) {
                    sum += sheets[i];
                }
            }
            return sum;
        }

        int lowestWith(int size, int kind) {
            for (int i = 0; i < TRAYS; i++) {
                if (sizes[i] == size && kinds[i] == kind && sheets[i] > 0) {
                    return i;
                }
            }
            return NONE;
        }

        void takeSheet(int size, int kind) {
            int tray = lowestWith(size, kind);
            if (tray != NONE) {
                sheets[tray]--;
            }
        }
    }

    /** The accounts, and the papers of which sheets were taken, in the order of their first sheets. */
    private static final class Ledger {
        final int[] accounts = new int[ACCOUNTS];
        final int[] paperSizes = new int[PAPERS];
        final int[] paperKinds = new int[PAPERS];
        final int[] paperSheets = new int[PAPERS];
        int papers;
        // Not the sum of two accounts: sheets that a hold or cancel spoiled were never finished.
        int finishedSheets;

        void copyFrom(Ledger other) {
            System.arraycopy(other.accounts, 0, accounts, 0, ACCOUNTS);
            System.arraycopy(other.paperSizes, 0, paperSizes, 0, PAPERS);
            System.arraycopy(other.paperKinds, 0, paperKinds, 0, PAPERS);
            System.arraycopy(other.paperSheets, 0, paperSheets, 0, PAPERS);
            papers = other.papers;
            finishedSheets = other.finishedSheets;
        }

        void add(int what, int amount) {
            if (isBelow(what, ACCOUNTS)) {
                accounts[what] += amount;
            }
        }

        void addTakenSheet(int size, int kind) {
            add(TAKEN, 1);
            for (int i = 0; i < papers && i < PAPERS; i++) {
                if (paperSizes[i] == size && paperKinds[i] == kind) {
                    paperSheets[i]++;
                    return;
                }
            }
            if (papers < PAPERS) {
                paperSizes[papers] = size;
                paperKinds[papers] = kind;
                paperSheets[papers] = 1;
                papers++;
            }
        }
    }

    /** Everything that a state of the history records, and the work of its ticks. */
    private static final class Machine {
        // Far above the staplings of one tick: each one of 0 ticks ends a set, and no job has more sets.
        static final int MOST_STAPLINGS = MOST_JOBS * MOST_COPIES;

        final Trays trays = new Trays();
        final Queue queue = new Queue();
        final Ledger ledger = new Ledger();
        final int[] settings = new int[SETTINGS];
        int staplesLeft = FIRST_STAPLES;
        int bin;
        int work = NO_WORK;
        int workJob;
        int workTicks;

        Machine() {
            System.arraycopy(FIRST_SETTING, 0, settings, 0, SETTINGS);
        }

        void copyFrom(Machine other) {
            trays.copyFrom(other.trays);
            queue.copyFrom(other.queue);
            ledger.copyFrom(other.ledger);
            System.arraycopy(other.settings, 0, settings, 0, SETTINGS);
            staplesLeft = other.staplesLeft;
            bin = other.bin;
            work = other.work;
            workJob = other.workJob;
            workTicks = other.workTicks;
        }

        /** Lets ticks go by, work after work: no work takes less than a tick. */
        void letGoBy(int ticks) {
            int left = ticks;
            for (int works = 0; works < ticks && left > 0; works++) {
                if (findWork() == 0) {
                    left -= goOnWorking(left);
                } else {
                    ledger.add(STOPPED, left);
                    ledger.add(TICKS, left);
                    left = 0;
                }
            }
        }

        /** Returns after how many ticks a job has left the queue, NOT_FOUND if it stays too long. */
        int ticksUntilGone(int job) {
            int gone = 0;
            for (int works = 0; works < MOST_FORETOLD && gone < MOST_FORETOLD; works++) {
                int reason = findWork();
                if (queue.find(job) == null) {
                    // A stapling of 0 ticks finished it in the tick that has just begun.
                    return gone + 1;
                }
                if (reason != 0) {
                    return NOT_FOUND;
                }
                gone += goOnWorking(MOST_FORETOLD - gone);
                if (queue.find(job) == null) {
                    return gone;
                }
            }
            return NOT_FOUND;
        }

        /** Begins work if none goes on; returns the reason for which the machine stops, 0 if it works. */
        int findWork() {
            for (int staplings = 0; work == NO_WORK && staplings <= MOST_STAPLINGS; staplings++) {
                Job next = queue.next();
                if (next == null) {
                    return STOP_NO_JOB;
                }
                int reason = stopReason(next);
                if (reason != 0) {
                    return reason;
                }
                if (next.hasSetToStaple()) {
                    beginStapling(next);
                } else {
                    beginSheet(next);
                }
            }
            return 0;
        }

        int stopReason(Job next) {
            if (next.hasSetToStaple()) {
                return staplesLeft < next.staplesOfSet ? STOP_NO_STAPLES : 0;
            }
            if (trays.lowestWith(next.size, next.kind) == Trays.NONE) {
                return STOP_NO_PAPER;
            }
            return bin >= settings[BIN_ROOM] ? STOP_BIN_FULL : 0;
        }

        void beginSheet(Job job) {
            trays.takeSheet(job.size, job.kind);
            ledger.addTakenSheet(job.size, job.kind);
            queue.latest = job.number;
            int sides = job.sidesOfNextSheet();
            work = SHEET_WORK;
            workJob = job.number;
            workTicks = sides * settings[SIDE_TICKS] + (sides == 2 ? settings[TURN_TICKS] : 0);
        }

        void beginStapling(Job job) {
            if (settings[STAPLE_TICKS] == 0) {
                finishStapling(job);
                return;
            }
            work = STAPLE_WORK;
            workJob = job.number;
            workTicks = settings[STAPLE_TICKS];
        }

        /** Goes on with the work under way, at most so many ticks; returns how many went by. */
        int goOnWorking(int most) {
            int ticks = Math.min(most, workTicks);
            workTicks -= ticks;
            ledger.add(TICKS, ticks);
            if (workTicks == 0) {
                finishWork();
            }
            return ticks;
        }

        void finishWork() {
            Job job = queue.find(workJob);
            int finished = work;
            work = NO_WORK;
            if (job == null) {
                return;
            }
            if (finished == SHEET_WORK) {
                finishSheet(job);
            } else if (finished == STAPLE_WORK) {
                finishStapling(job);
            }
        }

        void finishSheet(Job job) {
            ledger.finishedSheets++;
            int spoiling = settings[SPOILING];
            if (spoiling > 0 && ledger.finishedSheets % spoiling == 0) {
                ledger.add(SPOILED, 1);
                return;
            }
            ledger.add(BINNED, 1);
            ledger.add(SIDES, job.sidesOfNextSheet());
            bin++;
            job.printed++;
            removeIfFinished(job);
        }

        void finishStapling(Job job) {
            int used = Math.min(staplesLeft, job.staplesOfSet);
            staplesLeft -= used;
            ledger.add(STAPLED, used);
            job.stapledSets++;
            removeIfFinished(job);
        }

        void removeIfFinished(Job job) {
            if (job.isFinished()) {
                ledger.add(FINISHED, 1);
                queue.remove(job);
            }
        }

        /** What a job loses that is held or cancelled: its work under way, and that it stays the next one. */
        void interrupt(Job job) {
            if (queue.latest == job.number) {
                queue.latest = Queue.NONE;
            }
            giveUpWorkOf(job.number);
        }

        void giveUpWorkOf(int job) {
            if (work == NO_WORK || workJob != job) {
                return;
            }
            if (work == SHEET_WORK) {
                ledger.add(SPOILED, 1);
            }
            work = NO_WORK;
            workTicks = 0;
        }

        int lackingSheets(int size, int kind) {
            int needed = queue.sheetsToPrint(size, kind) - trays.sheetsOf(size, kind);
            if (work == SHEET_WORK) {
                Job job = queue.find(workJob);
                if (job != null && job.isOn(size, kind)) {
                    needed--;
                }
            }
            return Math.max(0, needed);
        }
    }

    /** The latest states, the oldest one first; the rows behind the last one are spare. */
    private static final class History {
        final Machine[] rows = new Machine[MOST_STATES];
        int states;

        History() {
            for (int i = 0; i < MOST_STATES; i++) {
                rows[i] = new Machine();
            }
        }

        void keep(Machine machine) {
            if (states >= MOST_STATES) {
                dropOldest();
            }
            rows[states].copyFrom(machine);
            states++;
        }

        void dropOldest() {
            Machine oldest = rows[0];
            for (int i = 0; i + 1 < MOST_STATES; i++) {
                rows[i] = rows[i + 1];
            }
            rows[MOST_STATES - 1] = oldest;
            states = MOST_STATES - 1;
        }

        /** Brings the latest state back and forgets it; false if there is none. */
        boolean restore(Machine machine) {
            if (states < 1 || states > MOST_STATES) {
                return false;
            }
            states--;
            machine.copyFrom(rows[states]);
            return true;
        }
    }

    /** The text that is typed, its reader, and what the latest examination found. */
    private static final class JobText {
        static final int MOST_DIGITS = 3;
        static final int NONE = -1;

        final char[] signs = new char[MOST_CHARACTERS];
        int length;
        int place;
        int jobs;
        int faultPlace;
        int faultReason;

        void append(char sign) {
            if (isBelow(length, MOST_CHARACTERS)) {
                signs[length] = sign;
                length++;
            }
        }

        /** Looks for the first job that the machine could not take, those ahead of it taken. */
        void examine(Job draft, Machine machine) {
            int limit = machine.settings[STAPLE_LIMIT];
            int room = machine.queue.room();
            place = 0;
            jobs = 0;
            faultReason = 0;
            for (int i = 0; i < MOST_CHARACTERS && place < length && faultReason == 0; i++) {
                faultPlace = place;
                faultReason = reasonOfNext(draft, limit, room);
                if (faultReason == 0) {
                    jobs++;
                }
            }
        }

        int reasonOfNext(Job draft, int limit, int room) {
            if (!readJob(draft)) {
                return FORM_FAULT;
            }
            if (!draft.isInRange()) {
                return RANGE_FAULT;
            }
            if (draft.staplingRefusal(limit) != 0) {
                return STAPLE_FAULT;
            }
            return jobs >= room ? ROOM_FAULT : 0;
        }

        /** Reads the job at the place, and its ";", into the draft; false if it is not of the form. */
        boolean readJob(Job draft) {
            int pages = readNumber("p ");
            int copies = pages == NONE ? NONE : readNumber("c ");
            if (copies == NONE) {
                return false;
            }
            int how = readHow();
            int size = readSize();
            int kind = size == NONE ? NONE : readKind();
            if (kind == NONE) {
                return false;
            }
            draft.describe(pages, copies, size, kind, how);
            return true;
        }

        int readNumber(String unit) {
            int value = 0;
            int digits = 0;
            while (digits < MOST_DIGITS && digitAtPlace() != NONE) {
                value = value * 10 + digitAtPlace();
                digits++;
                place++;
            }
            return digits > 0 && skips(unit) ? value : NONE;
        }

        int digitAtPlace() {
            if (place < 0 || place >= length || place >= MOST_CHARACTERS) {
                return NONE;
            }
            int digit = signs[place] - '0';
            return digit >= 0 && digit <= 9 ? digit : NONE;
        }

        int readHow() {
            int how = 0;
            if (skips("both ")) {
                how += BOTH_SIDES;
            }
            if (skips("gather ")) {
                how += GATHERED;
            }
            if (skips("staple1 ")) {
                how += ONE_STAPLE;
            } else if (skips("staple2 ")) {
                how += TWO_STAPLES;
            }
            return how;
        }

        int readSize() {
            for (int size = 0; size < SIZES; size++) {
                if (skips(sizeWord(size))) {
                    return size;
                }
            }
            return NONE;
        }

        int readKind() {
            for (int kind = 0; kind < KINDS; kind++) {
                if (skips(kindWord(kind))) {
                    return kind;
                }
            }
            return NONE;
        }

        static String sizeWord(int size) {
            switch (size) {
                case 0: return "A5 ";
                case 1: return "A4 ";
                case 2: return "A3 ";
                default: return "letter ";
            }
        }

        static String kindWord(int kind) {
            switch (kind) {
                case 0: return "plain;";
                case 1: return "thick;";
                case 2: return "colored;";
                default: return "film;";
            }
        }

        /** Goes behind a word if it stands at the place. */
        boolean skips(String word) {
            int letters = word.length();
            if (place < 0 || letters > length - place || length > MOST_CHARACTERS) {
                return false;
            }
            for (int i = 0; i < letters; i++) {
                if (signs[place + i] != word.charAt(i)) {
                    return false;
                }
            }
            place += letters;
            return true;
        }
    }
}
