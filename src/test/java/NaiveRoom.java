import java.util.ArrayList;
import java.util.LinkedHashMap;
import java.util.List;
import java.util.Map;
import java.util.TreeMap;
import java.util.regex.Matcher;
import java.util.regex.Pattern;

/**
 * The document once more, in another way than PrintRoom: tick by tick, each sheet of a job a row of a list,
 * texts by a regular expression, every state a copy. Only for comparing answers.
 */
final class NaiveRoom {
    private static final int INVALID = -1;
    private static final int IMPOSSIBLE = -2;
    private static final int LIMIT = -3;
    private static final int MISSING = -4;
    private static final int[][] RANGES = {{1, 20}, {0, 20}, {0, 20}, {2, 100}, {0, 500}, {1, 1000}};
    private static final List<String> SIZES = List.of("A5", "A4", "A3", "letter");
    private static final List<String> KINDS = List.of("plain", "thick", "colored", "film");
    private static final Pattern JOB = Pattern.compile(
        "([0-9]{1,3})p ([0-9]{1,3})c( both)?( gather)?(?: staple([12]))? (A5|A4|A3|letter) (plain|thick|colored|film);");

    /** A sheet of a job, in the order in which they are printed. */
    private record Sheet(int index, int copy, int sides) {
    }

    private static final class Order {
        final int number, pages, copies, size, kind, how;
        final List<Sheet> sheets = new ArrayList<>();
        int priority;
        boolean held;
        int done;
        int stapled;

        Order(int number, int pages, int copies, int size, int kind, int how) {
            this.number = number;
            this.pages = pages;
            this.copies = copies;
            this.size = size;
            this.kind = kind;
            this.how = how;
            int set = setOf(pages, how);
            if ((how & 2) != 0) {
                for (int copy = 0; copy < copies; copy++) {
                    for (int sheet = 0; sheet < set; sheet++) {
                        sheets.add(new Sheet(sheet, copy, sides(sheet, set)));
                    }
                }
            } else {
                for (int sheet = 0; sheet < set; sheet++) {
                    for (int copy = 0; copy < copies; copy++) {
                        sheets.add(new Sheet(sheet, copy, sides(sheet, set)));
                    }
                }
            }
        }

        private int sides(int sheet, int set) {
            if ((how & 1) == 0) {
                return 1;
            }
            return sheet == set - 1 && pages % 2 == 1 ? 1 : 2;
        }

        Order copy() {
            Order other = new Order(number, pages, copies, size, kind, how);
            other.priority = priority;
            other.held = held;
            other.done = done;
            other.stapled = stapled;
            return other;
        }

        int staples() {
            return how >= 8 ? 2 : how >= 4 ? 1 : 0;
        }

        boolean isStaplingDue() {
            return staples() > 0 && done >= (stapled + 1) * setOf(pages, how);
        }
    }

    private static final class State {
        int[] traySize = {1, 1, 1, 1};
        int[] trayKind = {0, 0, 0, 0};
        int[] traySheets = {0, 0, 0, 0};
        int[] settings = {2, 1, 3, 30, 0, 250};
        long[] accounts = new long[9];
        Map<Integer, Order> orders = new TreeMap<>();
        Map<Integer, Integer> papers = new LinkedHashMap<>();
        int nextNumber;
        int staples = 100;
        int bin;
        int sticky = -1;
        int finished;
        int workKind;
        int workOrder;
        int workTicks;

        State copy() {
            State other = new State();
            other.traySize = traySize.clone();
            other.trayKind = trayKind.clone();
            other.traySheets = traySheets.clone();
            other.settings = settings.clone();
            other.accounts = accounts.clone();
            for (Order order : orders.values()) {
                other.orders.put(order.number, order.copy());
            }
            other.papers.putAll(papers);
            other.nextNumber = nextNumber;
            other.staples = staples;
            other.bin = bin;
            other.sticky = sticky;
            other.finished = finished;
            other.workKind = workKind;
            other.workOrder = workOrder;
            other.workTicks = workTicks;
            return other;
        }

        List<Order> inOrder() {
            List<Order> all = new ArrayList<>(orders.values());
            all.sort((a, b) -> {
                int byHeld = Boolean.compare(a.held, b.held);
                int bySticky = Boolean.compare(b.number == sticky, a.number == sticky);
                int byPriority = Integer.compare(b.priority, a.priority);
                return byHeld != 0 ? byHeld : bySticky != 0 ? bySticky
                    : byPriority != 0 ? byPriority : Integer.compare(a.number, b.number);
            });
            return all;
        }

        Order next() {
            List<Order> all = inOrder();
            return all.isEmpty() || all.get(0).held ? null : all.get(0);
        }

        int trayFor(Order order) {
            for (int i = 0; i < 4; i++) {
                if (traySize[i] == order.size && trayKind[i] == order.kind && traySheets[i] > 0) {
                    return i;
                }
            }
            return -1;
        }

        /** Begins work, if none goes on; the reason of the stop, or 0. */
        int begin() {
            while (workKind == 0) {
                Order next = next();
                if (next == null) {
                    return 1;
                }
                boolean staples = next.isStaplingDue();
                if (!staples && trayFor(next) < 0) {
                    return 2;
                }
                if (!staples && bin >= settings[5]) {
                    return 3;
                }
                if (staples && this.staples < next.staples()) {
                    return 4;
                }
                if (staples) {
                    workKind = 2;
                    workOrder = next.number;
                    workTicks = settings[2];
                    if (workTicks == 0) {
                        endStapling();
                    }
                } else {
                    traySheets[trayFor(next)]--;
                    accounts[0]++;
                    papers.merge(next.size * 10 + next.kind, 1, Integer::sum);
                    sticky = next.number;
                    workKind = 1;
                    workOrder = next.number;
                    int sides = next.sheets.get(next.done).sides();
                    workTicks = sides * settings[0] + (sides - 1) * settings[1];
                }
            }
            return 0;
        }

        void tick() {
            accounts[8]++;
            if (begin() != 0) {
                accounts[7]++;
                return;
            }
            workTicks--;
            if (workTicks == 0) {
                if (workKind == 1) {
                    endSheet();
                } else {
                    endStapling();
                }
            }
        }

        void endSheet() {
            workKind = 0;
            finished++;
            if (settings[4] > 0 && finished % settings[4] == 0) {
                accounts[2]++;
                return;
            }
            Order order = orders.get(workOrder);
            accounts[1]++;
            bin++;
            accounts[3] += order.sheets.get(order.done).sides();
            order.done++;
            endOrder(order);
        }

        void endStapling() {
            workKind = 0;
            Order order = orders.get(workOrder);
            int used = Math.min(staples, order.staples());
            staples -= used;
            accounts[4] += used;
            order.stapled++;
            endOrder(order);
        }

        void endOrder(Order order) {
            if (order.done == order.sheets.size() && (order.staples() == 0 || order.stapled == order.copies)) {
                orders.remove(order.number);
                accounts[5]++;
                if (sticky == order.number) {
                    sticky = -1;
                }
            }
        }

        void interrupt(int number) {
            if (workKind != 0 && workOrder == number) {
                if (workKind == 1) {
                    accounts[2]++;
                }
                workKind = 0;
                workTicks = 0;
            }
            if (sticky == number) {
                sticky = -1;
            }
        }

        int sheetsOf(int size, int kind) {
            int sum = 0;
            for (int i = 0; i < 4; i++) {
                sum += traySize[i] == size && trayKind[i] == kind ? traySheets[i] : 0;
            }
            return sum;
        }
    }

    private State now = new State();
    private final List<State> history = new ArrayList<>();
    private String text = "";
    private int refused = MISSING;

    private static int setOf(int pages, int how) {
        return (how & 1) != 0 ? pages / 2 + pages % 2 : pages;
    }

    private static boolean out(int value, int least, int greatest) {
        return value < least || value > greatest;
    }

    private void change() {
        history.add(now.copy());
        if (history.size() == 5) {
            history.remove(0);
        }
    }

    int fill(int tray, int sheets) {
        if (out(tray, 0, 3) || out(sheets, 1, 500)) {
            return INVALID;
        }
        if (now.traySheets[tray] + sheets > 500) {
            return LIMIT;
        }
        change();
        return now.traySheets[tray] += sheets;
    }

    int load(int tray, int size, int kind) {
        if (out(tray, 0, 3) || out(size, 0, 3) || out(kind, 0, 3)) {
            return INVALID;
        }
        change();
        int before = now.traySheets[tray];
        now.traySize[tray] = size;
        now.trayKind[tray] = kind;
        now.traySheets[tray] = 0;
        return before;
    }

    int tray(int tray, int what) {
        if (out(tray, 0, 3) || out(what, 0, 3)) {
            return INVALID;
        }
        int size = now.traySize[tray];
        int kind = now.trayKind[tray];
        return new int[] {size, kind, now.traySheets[tray], now.sheetsOf(size, kind)}[what];
    }

    int staples(int staples) {
        if (out(staples, 0, 5000)) {
            return INVALID;
        }
        change();
        int before = now.staples;
        now.staples = staples;
        return before;
    }

    int emptyBin() {
        change();
        int before = now.bin;
        now.bin = 0;
        return before;
    }

    int set(int what, int value) {
        if (out(what, 0, 5) || out(value, RANGES[what][0], RANGES[what][1])) {
            return INVALID;
        }
        change();
        int before = now.settings[what];
        now.settings[what] = value;
        return before;
    }

    private int refusalOf(int pages, int kind, int how) {
        int set = setOf(pages, how);
        int most = now.settings[3];
        return how < 4 ? 0 : (how & 2) == 0 ? 1 : kind == 3 ? 2 : set == 1 ? 3
            : set > (kind == 1 ? most / 2 : most) ? 4 : 0;
    }

    private int bring(int pages, int copies, int size, int kind, int how) {
        int number = now.nextNumber++;
        now.orders.put(number, new Order(number, pages, copies, size, kind, how));
        return number;
    }

    int job(int pages, int copies, int size, int kind, int how) {
        if (out(pages, 1, 200) || out(copies, 1, 50) || out(size, 0, 3) || out(kind, 0, 3) || out(how, 0, 11)) {
            return INVALID;
        }
        int reason = refusalOf(pages, kind, how);
        if (reason != 0) {
            refused = reason;
            return IMPOSSIBLE;
        }
        if (now.orders.size() == 10) {
            return LIMIT;
        }
        change();
        return bring(pages, copies, size, kind, how);
    }

    int refusal() {
        return refused;
    }

    int hold(int job, int held) {
        if (job < 0 || out(held, 0, 1)) {
            return INVALID;
        }
        if (!now.orders.containsKey(job)) {
            return MISSING;
        }
        change();
        Order order = now.orders.get(job);
        int before = order.held ? 1 : 0;
        order.held = held == 1;
        if (order.held) {
            now.interrupt(job);
        }
        return before;
    }

    int cancel(int job) {
        if (job < 0) {
            return INVALID;
        }
        if (!now.orders.containsKey(job)) {
            return MISSING;
        }
        change();
        now.interrupt(job);
        now.accounts[6]++;
        return now.orders.remove(job).done;
    }

    int priority(int job, int value) {
        if (job < 0 || out(value, 0, 9)) {
            return INVALID;
        }
        if (!now.orders.containsKey(job)) {
            return MISSING;
        }
        change();
        Order order = now.orders.get(job);
        int before = order.priority;
        order.priority = value;
        return before;
    }

    int jobInfo(int job, int what) {
        if (job < 0 || out(what, 0, 12)) {
            return INVALID;
        }
        Order order = now.orders.get(job);
        if (order == null) {
            return MISSING;
        }
        boolean all = order.done == order.sheets.size();
        int[] told = {order.pages, order.copies, order.size, order.kind, order.how, order.priority,
            order.held ? 1 : 0, setOf(order.pages, order.how), order.sheets.size(), order.done, order.stapled,
            all ? MISSING : order.sheets.get(order.done).index(), all ? MISSING : order.sheets.get(order.done).copy()};
        return told[what];
    }

    int queued(int place) {
        if (place < 0) {
            return INVALID;
        }
        return place < now.orders.size() ? now.inOrder().get(place).number : MISSING;
    }

    int run(int ticks) {
        if (out(ticks, 1, 5000)) {
            return INVALID;
        }
        if (now.accounts[8] + ticks > 1000000) {
            return LIMIT;
        }
        change();
        long before = now.accounts[1];
        for (int i = 0; i < ticks; i++) {
            now.tick();
        }
        return (int) (now.accounts[1] - before);
    }

    int stop() {
        return now.copy().begin();
    }

    int count(int what) {
        if (out(what, 0, 16)) {
            return INVALID;
        }
        int held = 0;
        for (Order order : now.orders.values()) {
            held += order.held ? 1 : 0;
        }
        int[] s = now.settings;
        int[] told = {now.orders.size(), held, now.nextNumber, now.bin, now.staples, now.workTicks, now.workKind,
            now.workKind == 0 ? MISSING : now.workOrder, s[0], s[1], s[2], s[3], s[4], s[5], now.papers.size(),
            history.size(), text.length()};
        return told[what];
    }

    int account(int what) {
        return out(what, 0, 8) ? INVALID : (int) now.accounts[what];
    }

    int paper(int index, int what) {
        if (index < 0 || out(what, 0, 2)) {
            return INVALID;
        }
        if (index >= now.papers.size()) {
            return MISSING;
        }
        int code = new ArrayList<>(now.papers.keySet()).get(index);
        return new int[] {code / 10, code % 10, now.papers.get(code)}[what];
    }

    int lacking(int size, int kind) {
        if (out(size, 0, 3) || out(kind, 0, 3)) {
            return INVALID;
        }
        int needed = 0;
        for (Order order : now.orders.values()) {
            if (order.size == size && order.kind == kind) {
                int underWay = now.workKind == 1 && now.workOrder == order.number ? 1 : 0;
                needed += order.sheets.size() - order.done - underWay;
            }
        }
        return Math.max(0, needed - now.sheetsOf(size, kind));
    }

    int ticksTo(int job) {
        if (job < 0) {
            return INVALID;
        }
        State later = now.copy();
        for (int ticks = 0; ticks <= 20000 && now.orders.containsKey(job); ticks++) {
            if (!later.orders.containsKey(job)) {
                return ticks;
            }
            later.tick();
        }
        return MISSING;
    }

    int undo() {
        if (history.isEmpty()) {
            return IMPOSSIBLE;
        }
        now = history.remove(history.size() - 1);
        return history.size();
    }

    int type(int character) {
        if (out(character, 32, 126)) {
            return INVALID;
        }
        if (text.length() == 100) {
            return LIMIT;
        }
        text += (char) character;
        return text.length();
    }

    int clearText() {
        int before = text.length();
        text = "";
        return before;
    }

    /** Reads the text: the index and the reason of its fault, or null; the jobs ahead of it are put into a list. */
    private int[] read(List<int[]> jobs) {
        int at = 0;
        while (at < text.length()) {
            Matcher match = JOB.matcher(text).region(at, text.length());
            if (!match.lookingAt()) {
                return new int[] {at, 1};
            }
            int pages = Integer.parseInt(match.group(1));
            int copies = Integer.parseInt(match.group(2));
            int how = (match.group(3) == null ? 0 : 1) + (match.group(4) == null ? 0 : 2)
                + (match.group(5) == null ? 0 : 4 * Integer.parseInt(match.group(5)));
            int size = SIZES.indexOf(match.group(6));
            int kind = KINDS.indexOf(match.group(7));
            if (out(pages, 1, 200) || out(copies, 1, 50)) {
                return new int[] {at, 2};
            }
            if (refusalOf(pages, kind, how) != 0) {
                return new int[] {at, 3};
            }
            if (now.orders.size() + jobs.size() >= 10) {
                return new int[] {at, 4};
            }
            jobs.add(new int[] {pages, copies, size, kind, how});
            at = match.end();
        }
        return null;
    }

    int fault(int what) {
        if (out(what, 0, 1)) {
            return INVALID;
        }
        int[] fault = read(new ArrayList<>());
        return fault == null ? MISSING : fault[what];
    }

    int enter() {
        List<int[]> jobs = new ArrayList<>();
        if (read(jobs) != null) {
            return IMPOSSIBLE;
        }
        change();
        for (int[] job : jobs) {
            bring(job[0], job[1], job[2], job[3], job[4]);
        }
        return jobs.size();
    }
}
