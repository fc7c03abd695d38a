/** The text: its form character by character, numbers, words and their order, faults with their places and reasons. */
public final class TextTests extends RoomChecks {
    private static final String[] SIZES = {"A5", "A4", "A3", "letter"};
    private static final String[] KINDS = {"plain", "thick", "colored", "film"};
    private static final String[] STAPLES = {"", "staple1 ", "staple2 "};

    private TextTests() {
    }

    public static void main(String[] args) {
        everyRightForm();
        digits();
        ranges();
        eachCharacterIsNeeded();
        eachPartIsNeeded();
        eachWordAtMostOnce();
        wordsInThisOrder();
        oneBlankBetweenTwoParts();
        eachJobIsFollowedByItsSign();
        signsOfWords();
        reasonsInOrder();
        stapledOrNot();
        limitIsThePresentOne();
        roomWithThoseAhead();
        firstJobThatIsNotPossible();
        placesInTheText();
        oldCharactersAreGone();
        faultOfGrowingText();
        enterBringsAll();
        CHECKS.end("TextTests");
    }

    /** A right job, or one with the reason. */
    private static void reason(String text, int reason) {
        fault(new PrintRoom(), text, reason == 0 ? MISSING : 0, reason == 0 ? MISSING : reason);
    }

    private static void everyRightForm() {
        for (int form = 0; form < 2 * 2 * 3 * 4 * 4; form++) {
            int both = form % 2;
            int gather = form / 2 % 2;
            int staples = form / 4 % 3;
            int size = form / 12 % 4;
            int kind = form / 48;
            String text = "12p 3c " + (both == 1 ? "both " : "") + (gather == 1 ? "gather " : "") + STAPLES[staples]
                + SIZES[size] + " " + KINDS[kind] + ";";
            boolean isStapledInVain = staples > 0 && (gather == 0 || kind == FILM);
            reason(text, isStapledInVain ? 3 : 0);
            PrintRoom x = new PrintRoom();
            write(x, text);
            due("enter: '" + text + "'", x.enter(), isStapledInVain ? IMPOSSIBLE : 1);
            if (!isStapledInVain) {
                int[] due = {12, 3, size, kind, both + 2 * gather + 4 * staples, 0, 0};
                for (int what = 0; what < due.length; what++) {
                    due("enter: '" + text + "', " + what, x.jobInfo(0, what), due[what]);
                }
            }
        }
    }

    private static void digits() {
        String[] right = {"1", "9", "01", "09", "10", "001", "010", "050"};
        for (String number : right) {
            reason(number + "p 1c A4 plain;", 0);
            reason("1p " + number + "c A4 plain;", 0);
            PrintRoom x = new PrintRoom();
            write(x, number + "p " + number + "c A4 plain;");
            x.enter();
            due("digits: pages " + number, x.jobInfo(0, 0), Integer.parseInt(number));
            due("digits: copies " + number, x.jobInfo(0, 1), Integer.parseInt(number));
        }
        String[] wrong = {"", "0001", "0000", "1000", "00001", "9999999999", "-1", "+1", "1.0", "1 0", "0x1", "a", "1a", " 1", "1 "};
        for (String number : wrong) {
            reason(number + "p 1c A4 plain;", 1);
            reason("1p " + number + "c A4 plain;", 1);
        }
    }

    private static void ranges() {
        String[] pages = {"1", "001", "2", "099", "199", "200"};
        for (String number : pages) {
            reason(number + "p 1c A4 plain;", 0);
        }
        String[] wrongPages = {"0", "00", "000", "201", "202", "300", "999"};
        for (String number : wrongPages) {
            reason(number + "p 1c A4 plain;", 2);
        }
        String[] copies = {"1", "01", "001", "49", "50", "050"};
        for (String number : copies) {
            reason("1p " + number + "c A4 plain;", 0);
        }
        String[] wrongCopies = {"0", "00", "000", "51", "051", "52", "100", "999"};
        for (String number : wrongCopies) {
            reason("1p " + number + "c A4 plain;", 2);
            reason("0p " + number + "c A4 plain;", 2);
        }
    }

    /** Without any of its characters, or with one twice or another one instead, a job is not of the form. */
    private static void eachCharacterIsNeeded() {
        String text = "9p 9c both gather staple2 letter colored;";
        reason(text, 0);
        for (int i = 0; i < text.length(); i++) {
            String before = text.substring(0, i);
            String behind = text.substring(i + 1);
            char sign = text.charAt(i);
            reason(before + behind, 1);
            if (sign != '9') {
                reason(before + "x" + behind, 1);
                reason(before + (char) (sign + 1) + behind, 1);
            }
            if (sign != '9' && sign != ';') {
                reason(before + sign + sign + behind, 1);
            }
            if (Character.isLowerCase(sign)) {
                reason(before + Character.toUpperCase(sign) + behind, 1);
            }
        }
    }

    private static void eachPartIsNeeded() {
        String[] parts = {"9p", "9c", "A4", "plain"};
        for (int left = 0; left < 4; left++) {
            StringBuilder text = new StringBuilder();
            for (int i = 0; i < 4; i++) {
                if (i != left) {
                    text.append(text.length() == 0 ? "" : " ").append(parts[i]);
                }
            }
            reason(text + ";", 1);
        }
        reason(";", 1);
        reason(" ;", 1);
        reason("9p 9c;", 1);
        reason("9p 9c both;", 1);
        reason("9p 9c both A4;", 1);
        reason("9p 9c both plain;", 1);
        reason("both A4 plain;", 1);
    }

    private static void eachWordAtMostOnce() {
        String[] wrong = {"9p 9p 9c A4 plain;", "9p 9c 9c A4 plain;", "9p 9c A4 A4 plain;", "9p 9c A4 plain plain;",
            "9p 9c both both A4 plain;", "9p 9c gather gather A4 plain;", "9p 9c gather staple1 staple1 A4 plain;",
            "9p 9c gather staple2 staple2 A4 plain;", "9p 9c gather staple1 staple2 A4 plain;",
            "9p 9c gather staple2 staple1 A4 plain;", "9p 9c both gather both A4 plain;",
            "9p 9c gather staple1 gather A4 plain;", "9p 9c A4 letter plain;", "9p 9c A4 plain film;"};
        for (String text : wrong) {
            reason(text, 1);
        }
    }

    private static void wordsInThisOrder() {
        String[] wrong = {"9c 9p A4 plain;", "9p A4 9c plain;", "9p 9c plain A4;", "A4 9p 9c plain;",
            "9p 9c gather both A4 plain;", "9p 9c staple1 gather A4 plain;", "9p 9c staple2 both gather A4 plain;",
            "9p 9c both staple2 gather A4 plain;", "9p 9c A4 both plain;", "9p 9c A4 plain gather;",
            "both 9p 9c A4 plain;", "9p both 9c A4 plain;", "9p 9c gather A4 staple1 plain;"};
        for (String text : wrong) {
            reason(text, 1);
        }
    }

    private static void oneBlankBetweenTwoParts() {
        String text = "9p 9c both gather staple1 A4 plain;";
        for (int i = 0; i <= text.length(); i++) {
            if (i < text.length()) {
                reason(text.substring(0, i) + " " + text.substring(i), 1);
            } else {
                fault(new PrintRoom(), text + " ", i, 1);
            }
        }
        for (int i = text.indexOf(' '); i >= 0; i = text.indexOf(' ', i + 1)) {
            reason(text.substring(0, i) + text.substring(i + 1), 1);
            reason(text.substring(0, i) + "_" + text.substring(i + 1), 1);
        }
    }

    private static void eachJobIsFollowedByItsSign() {
        PrintRoom x = new PrintRoom();
        String job = "1p 1c A4 plain";
        fault(x, job, 0, 1);
        fault(x, job + ";", MISSING, MISSING);
        fault(x, job + ";;", 15, 1);
        fault(x, job + ";" + job, 15, 1);
        fault(x, job + ";" + job + ";", MISSING, MISSING);
        fault(x, job + job + ";", 0, 1);
        fault(x, ";" + job + ";", 0, 1);
        fault(x, job + "; " + job + ";", 15, 1);
        fault(x, job + " ;" + job + ";", 0, 1);
        fault(x, job + "," + job + ";", 0, 1);
        fault(x, job + ":", 0, 1);
    }

    /** Letters are small or great as they are told, and no word is a part of another one. */
    private static void signsOfWords() {
        String[] words = {"BOTH", "Both", "bot", "gathers", "gathered", "staple", "staple0", "staple3", "staple12", "staples",
            "Staple1", "A4", "plain", "hold", ";"};
        for (String word : words) {
            reason("9p 9c " + word + " A4 plain;", 1);
        }
        String[] sizes = {"a4", "A", "4", "A2", "A6", "A44", "B4", "Letter", "lette", "letters", "both", "1"};
        for (String size : sizes) {
            reason("9p 9c " + size + " plain;", 1);
        }
        String[] kinds = {"Plain", "plai", "plains", "thic", "thin", "coloured", "color", "films", "A4", "0"};
        for (String kind : kinds) {
            reason("9p 9c A4 " + kind + ";", 1);
        }
    }

    private static void reasonsInOrder() {
        PrintRoom x = new PrintRoom();
        for (int i = 0; i < 10; i++) {
            x.job(1, 1, A4, PLAIN, 0);
        }
        fault(x, "1p 1c A4 plain;", 0, 4);
        fault(x, "1p 1c staple1 A4 plain;", 0, 3);
        fault(x, "201p 1c A4 plain;", 0, 2);
        fault(x, "0p 1c staple1 A4 plain;", 0, 2);
        fault(x, "2p 51c gather staple1 A4 film;", 0, 2);
        fault(x, "0p 1c staple1 A4 plain", 0, 1);
        fault(x, "1p 1c A4 plain", 0, 1);
        PrintRoom y = new PrintRoom();
        fault(y, "2p 51c gather staple1 A4 film;", 0, 2);
        fault(y, "2p 51c staple1 gather A4 film;", 0, 1);
        fault(y, "2p 50c gather staple1 A4 film;", 0, 3);
    }

    private static void stapledOrNot() {
        reason("2p 1c gather staple1 A4 plain;", 0);
        reason("1p 1c gather staple1 A4 plain;", 3);
        reason("2p 1c both gather staple1 A4 plain;", 3);
        reason("3p 1c both gather staple1 A4 plain;", 0);
        reason("2p 1c staple2 A4 plain;", 3);
        reason("2p 1c gather staple2 A4 film;", 3);
        reason("30p 1c gather staple1 A4 colored;", 0);
        reason("31p 1c gather staple1 A4 colored;", 3);
        reason("60p 1c both gather staple1 A4 plain;", 0);
        reason("61p 1c both gather staple1 A4 plain;", 3);
        reason("15p 1c gather staple2 A4 thick;", 0);
        reason("16p 1c gather staple2 A4 thick;", 3);
        reason("200p 50c gather A4 film;", 0);
    }

    private static void limitIsThePresentOne() {
        PrintRoom x = new PrintRoom();
        write(x, "5p 1c gather staple1 A4 plain;");
        due("the limit: 30", x.fault(0), MISSING);
        x.set(SETLIMIT, 4);
        due("the limit: 4", x.fault(1), 3);
        due("the limit: refused", x.enter(), IMPOSSIBLE);
        x.set(SETLIMIT, 5);
        due("the limit: 5", x.fault(1), MISSING);
        due("the limit: taken", x.enter(), 1);
        x.undo();
        x.undo();
        due("the limit: undone", x.fault(1), 3);
    }

    private static void roomWithThoseAhead() {
        String two = "1p 1c A4 plain;1p 1c A4 plain;";
        for (int jobs = 0; jobs <= 10; jobs++) {
            PrintRoom x = new PrintRoom();
            for (int i = 0; i < jobs; i++) {
                x.job(1, 1, A4, PLAIN, 0);
            }
            int index = jobs == 10 ? 0 : jobs == 9 ? 15 : MISSING;
            fault(x, two, index, index == MISSING ? MISSING : 4);
            due("room: enter with " + jobs, x.enter(), index == MISSING ? 2 : IMPOSSIBLE);
            due("room: jobs then", x.count(0), index == MISSING ? jobs + 2 : jobs);
        }
    }

    private static void firstJobThatIsNotPossible() {
        PrintRoom x = new PrintRoom();
        fault(x, "5p 1c staple1 A4 plain;0p 1c A4 plain;x", 0, 3);
        fault(x, "1p 1c A4 plain;5p 1c staple1 A4 plain;0p 1c A4 plain;x", 15, 3);
        fault(x, "1p 1c A4 plain;0p 1c A4 plain;5p 1c staple1 A4 plain;x", 15, 2);
        fault(x, "1p 1c A4 plain;x;0p 1c A4 plain;", 15, 1);
        fault(x, "1p 1c A4 plain;1p 1c letter film;51p 51c A3 thick;", 33, 2);
        for (int i = 0; i < 9; i++) {
            x.job(1, 1, A4, PLAIN, 0);
        }
        fault(x, "1p 1c A4 plain;1p 1c A4 plain;0p 1c A4 plain;", 15, 4);
        fault(x, "1p 1c A4 plain;0p 1c A4 plain;1p 1c A4 plain;", 15, 2);
    }

    private static void placesInTheText() {
        String job = "1p 1c A5 film;";
        for (int ahead = 0; ahead <= 6; ahead++) {
            fault(new PrintRoom(), job.repeat(ahead) + "x", 14 * ahead, 1);
            fault(new PrintRoom(), job.repeat(ahead) + "0p 1c A5 film;", 14 * ahead, 2);
            fault(new PrintRoom(), job.repeat(ahead + 1), MISSING, MISSING);
        }
        fault(new PrintRoom(), job.repeat(7) + "1p", 98, 1);
    }

    private static void oldCharactersAreGone() {
        PrintRoom x = new PrintRoom();
        write(x, "1p 1c A4 plain;12p 3c A3 thick;");
        x.clearText();
        write(x, "1p 1c A4 plain");
        due("old characters: the \";\" is gone", x.fault(1), 1);
        due("old characters: refused", x.enter(), IMPOSSIBLE);
        x.type(';');
        due("old characters: the second job is gone", x.fault(0), MISSING);
        due("old characters: one job", x.enter(), 1);
        x.type('1');
        due("old characters: the number is not the old one", x.fault(0), 15);
    }

    private static void faultOfGrowingText() {
        PrintRoom x = new PrintRoom();
        String text = "5p 2c both gather staple1 A4 thick;10p 1c letter film;";
        for (int i = 0; i < text.length(); i++) {
            x.type(text.charAt(i));
            boolean isWhole = text.charAt(i) == ';';
            due("growing: index at " + i, x.fault(0), isWhole ? MISSING : i < 35 ? 0 : 35);
            due("growing: reason at " + i, x.fault(1), isWhole ? MISSING : 1);
        }
    }

    private static void enterBringsAll() {
        PrintRoom x = filled();
        x.job(1, 1, A4, PLAIN, 0);
        x.priority(0, 1);
        write(x, "2p 1c A4 plain;1p 3c gather A4 plain;x");
        due("enter: a fault", x.enter(), IMPOSSIBLE);
        due("enter: none is brought", x.count(0), 1);
        due("enter: no number is used", x.count(2), 1);
        rewrite(x, "2p 1c A4 plain;1p 3c gather A4 plain;");
        due("enter: both", x.enter(), 2);
        queue("enter: with numbers in their order, of the priority 0", x, 0, 1, 2);
        due("enter: the text stays", x.count(16), 37);
        due("enter: once more", x.enter(), 2);
        queue("enter: once more", x, 0, 1, 2, 3, 4);
        due("enter: all are printed", x.run(22), 11);
        due("enter: all are finished", x.account(5), 5);
    }
}
