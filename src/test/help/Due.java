import java.util.function.Supplier;

/** What the tests share: answers that are due, days that are made for them, and a portrait of all that can be seen. */
class Due {
    static final int NONE = -1, BAD = -2, STATE = -3, FULL = -4, NOTHING = -11, OUTSIDE = -12, UNLIKE = -13, NEGATIVE = -14;
    static final int MIN = Integer.MIN_VALUE, MAX = Integer.MAX_VALUE;
    static final String FIRST = "ship waited * price ; cart waited * price ; change 1 ;";
    private static String where = "";
    private static int answers = 0;
    private static int wrong = 0;

    /** A call on an object, with what it answers. */
    interface Call {
        long on(OneAlwaysUp x);
    }

    Due() {
    }

    /** The promise, and if it helps its sentence, that the next answers are due by. */
    static void by(int promise, String sentence) {
        where = "promise " + promise + (sentence.isEmpty() ? "" : " (" + sentence + ")");
    }

    static void due(String call, long got, long want) {
        answers++;
        if (got != want) {
            wrong++;
            System.out.println(where + ": " + call + " answered " + got + ", due is " + want);
        }
    }

    static void dueRow(String what, String got, String want) {
        answers++;
        if (!got.equals(want)) {
            wrong++;
            System.out.println(where + ": " + what + " is " + got + ", due is " + want);
        }
    }

    static void end() {
        System.out.println(wrong == 0 ? answers + " answers are as due" : wrong + " answers are not as due");
        if (wrong != 0) {
            System.exit(1);
        }
    }

    /** What lies just beyond a first and a last number that are allowed, and as far beyond as can be. */
    static int[] beyond(int first, int last) {
        return new int[] {first - 1, last + 1, MIN, MAX};
    }

    // ---- days

    static int read(OneAlwaysUp x, String text) {
        for (int i = 0; i < text.length(); i++) {
            x.feed(text.charAt(i));
        }
        return x.text();
    }

    /** A new object whose rule is a text. */
    static OneAlwaysUp ruled(String text) {
        OneAlwaysUp x = new OneAlwaysUp();
        int number = read(x, text);
        due("text() of " + text, number, 1);
        x.force(number);
        return x;
    }

    static void lay(OneAlwaysUp x, String row) {
        for (int m = 0; m < row.length(); m++) {
            x.up(m, row.charAt(m) - '0');
        }
    }

    static void tell(OneAlwaysUp x, int sheet, int sort, int... row) {
        x.sheet(sheet, sort, row.length);
        for (int i = 0; i < row.length; i++) {
            x.cell(sheet, i, row[i]);
        }
    }

    /** The first n minutes of a master's run, told by a sheet. */
    static void tellRun(OneAlwaysUp x, int sheet, int sort, int master, int n) {
        x.sheet(sheet, sort, n);
        for (int i = 0; i < n; i++) {
            x.cell(sheet, i, x.run(master, i));
        }
    }

    /** A day with room for more of all, but with something of each, and with an image that is not as the day is. */
    static OneAlwaysUp halfDay() {
        OneAlwaysUp x = new OneAlwaysUp();
        read(x, "ship 2*waited;cart price;change 3;");
        x.come(0, 102, 5);
        x.come(1, 206, 4);
        x.master(1, 3);
        x.up(7, 1);
        x.image();
        x.come(0, 11, 3);
        x.come(1, 5, 7);
        x.master(5, 6);
        x.law(0, 0, 2);
        x.law(1, 0, 5);
        x.force(1);
        x.up(8, 1);
        tellRun(x, 0, 0, 0, 12);
        tellRun(x, 1, 1, 1, 9);
        tellRun(x, 2, 2, 0, 4);
        for (int c : new int[] {'s', 'h', 'i', 'p', ' ', '1', ';', 'c', 'a', 'r', 't'}) {
            x.feed(c);
        }
        return x;
    }

    /** A day without room for a ship, a cart, a master or a text more. */
    static OneAlwaysUp fullDay() {
        OneAlwaysUp x = new OneAlwaysUp();
        for (int n = 1; n < 6; n++) {
            read(x, "ship " + n + ";cart 1;change 1;");
        }
        for (int n = 0; n < 4; n++) {
            x.come(0, n % 3 * 100 + 3 * n, n + 1);
            x.come(1, (n + 1) % 3 * 100 + 4 * n, 9 - n);
            x.master(n, n + 2);
            x.up(5 + n, 2);
        }
        x.force(4);
        x.image();
        x.up(20, 1);
        x.law(0, 0, 3);
        tellRun(x, 3, 0, 1, 10);
        x.feed('s');
        return x;
    }

    /** A day whose tape is full. */
    static OneAlwaysUp fullTape() {
        OneAlwaysUp x = new OneAlwaysUp();
        String text = "ship 7;cart 8;change 9";
        for (int i = 0; i < 160; i++) {
            x.feed(i < text.length() ? text.charAt(i) : i == 159 ? ';' : ' ');
        }
        x.come(0, 105, 1);
        x.come(1, 9, 1);
        return x;
    }

    // ---- what can be seen

    static String planRow(OneAlwaysUp x) {
        return row(m -> x.at(m));
    }

    static String leastRow(OneAlwaysUp x) {
        return row(m -> x.least(m + 2));
    }

    static String runRow(OneAlwaysUp x, int master) {
        return row(m -> x.run(master, m));
    }

    private static String row(java.util.function.IntUnaryOperator at) {
        StringBuilder row = new StringBuilder();
        for (int m = 0; m < 24; m++) {
            row.append(at.applyAsInt(m));
        }
        return row.toString();
    }

    /**
     * All that can be seen of an object in fewer than 300 calls. It goes back to the image and makes the tape a text, so
     * the object is of no use then.
     */
    static String portrait(OneAlwaysUp x) {
        StringBuilder b = new StringBuilder();
        see(b, x);
        for (int s = 0; s < 4; s++) {
            b.append(" sheet ").append(s);
            for (int sort = 0; sort < 3; sort++) {
                b.append(' ').append(x.comes(s, sort, 0, 0));
            }
            b.append(" size ").append(size(x, s)).append(" judge ").append(x.judge(s)).append(" who ").append(x.who(s));
        }
        b.append(" text ").append(x.text()).append(' ').append(x.count(5)).append(' ').append(x.count(6));
        b.append(" force ").append(x.force(x.count(5) - 1)).append(" cost ").append(x.plan(0));
        b.append(" back ").append(x.back());
        see(b, x);
        return b.toString();
    }

    private static void see(StringBuilder b, OneAlwaysUp x) {
        b.append(" count");
        for (int what = 0; what < 8; what++) {
            b.append(' ').append(x.count(what));
        }
        b.append(" plan ").append(planRow(x));
        for (int what = 0; what < 4; what++) {
            b.append(' ').append(x.plan(what));
        }
        b.append(" least ").append(x.least(0)).append(" fewest ").append(x.fewest());
        for (int i = 0; i < 8; i++) {
            b.append(i < 4 ? " ship" : " cart");
            for (int what = 0; what < 3; what++) {
                b.append(' ').append(x.told(i / 4, i % 4, what));
            }
        }
        for (int i = 0; i < 4; i++) {
            b.append(" master");
            for (int k = 0; k < 6; k++) {
                b.append(' ').append(x.taken(i, k));
            }
        }
    }

    /** How many numbers a sheet has, or -1: copied onto themselves they stay as they are. */
    private static int size(OneAlwaysUp x, int sheet) {
        int has = -1;
        int hasNot = 41;
        while (hasNot - has > 1) {
            int n = (has + hasNot) / 2;
            if (x.copy(sheet, 0, sheet, 0, n) == n) {
                has = n;
            } else {
                hasNot = n;
            }
        }
        return has;
    }

    /** A call is answered as is due, and nothing that can be seen is another then. */
    static void dueAndStill(Supplier<OneAlwaysUp> day, String name, Call call, long want) {
        OneAlwaysUp x = day.get();
        due(name, call.on(x), want);
        dueRow("behind " + name + " all", portrait(x), portrait(day.get()));
    }
}
