import java.util.ArrayList;
import java.util.List;

/** Promises 7 to 9 and what the document says of TEXTS, sentence by sentence. */
public final class EdgesOfTexts extends Due {
    private static final String REST = ";cart 1;change 1;";
    /** 2 to the power of 31, which is the least int. */
    private static final String LEAST = "8192*8192*32";
    private static final String MOST = "(8192*8192*32-1)";

    public static void main(String[] args) {
        feedBytes();
        feedFull();
        textEmpty();
        textEmptiesTheTape();
        textBehindFaults();
        textFull();
        textThatFillsTheTape();
        eachByte();
        blanks();
        words();
        numbers();
        tokensAreLong();
        endsTooEarly();
        beyondTheEnd();
        grammar();
        open();
        openEnds();
        firstFault();
        wraps();
        truth();
        binding();
        bounds();
        namesOfOne();
        namesOfChange();
        firstText();
        force();
        end();
    }

    private static void fault(String text, int place) {
        OneAlwaysUp x = new OneAlwaysUp();
        due("text() of " + text, read(x, text), -100 - place);
        due("count(5)", x.count(5), 1);
        due("count(6)", x.count(6), 0);
    }

    private static void reads(String text) {
        OneAlwaysUp x = new OneAlwaysUp();
        due("text() of " + text, read(x, text), 1);
        due("count(5)", x.count(5), 2);
    }

    /** An E as a ship's. */
    private static void readsE(String e) {
        reads("ship " + e + REST);
    }

    private static void faultOfE(String e, int place) {
        fault("ship " + e + REST, 5 + place);
    }

    /** What an E is for a ship of price 7, at bridge 2, from minute 5 on, that is never through, a cart beside it. */
    private static void worth(String e, int want) {
        OneAlwaysUp x = ruled("ship " + e + REST);
        x.come(0, 205, 7);
        x.come(1, 100, 1);
        due("what " + e + " is", x.told(0, 0, 5), want);
    }

    private static void feedBytes() {
        by(7, "a byte (0 .. 255); BAD");
        OneAlwaysUp x = new OneAlwaysUp();
        due("feed(0)", x.feed(0), 1);
        due("feed(255)", x.feed(255), 2);
        for (int letter : beyond(0, 255)) {
            due("feed(" + letter + ")", x.feed(letter), BAD);
        }
        due("count(6)", x.count(6), 2);
        due("feed(128)", x.feed(128), 3);
    }

    private static void feedFull() {
        by(7, "THE TAPE (160 bytes at most): how many it has; FULL");
        OneAlwaysUp x = new OneAlwaysUp();
        for (int n = 1; n <= 160; n++) {
            due("byte " + n, x.feed(n), n);
        }
        due("the 161st", x.feed(32), FULL);
        due("the 162nd", x.feed(32), FULL);
        due("count(6)", x.count(6), 160);
        by(7, "BAD ahead of FULL");
        for (int letter : beyond(0, 255)) {
            due("feed(" + letter + ")", x.feed(letter), BAD);
        }
    }

    private static void textEmpty() {
        by(8, "an empty TAPE ends too early: the text's size");
        fault("", 0);
        fault(" ", 1);
        fault(" \n ", 3);
        fault(" ".repeat(160), 160);
    }

    private static void textEmptiesTheTape() {
        by(8, "THE TAPE, which is empty then");
        OneAlwaysUp x = new OneAlwaysUp();
        due("a text", read(x, "ship 1" + REST), 1);
        due("count(6)", x.count(6), 0);
        due("a fault", read(x, "ship"), -104);
        due("count(6)", x.count(6), 0);
        due("another text, of which nothing of the fault is left", read(x, " 1;"), -101);
        due("feed(32)", x.feed(32), 1);
        due("text()", x.text(), -101);
        due("an empty one, of which no blank is left", x.text(), -100);
        due("a NUMBER that is too long", read(x, "ship 12345678"), -105);
        due("one that is not, of which no digit is left", read(x, "ship 1234"), -109);
        due("the number of the next one", read(x, "ship 2" + REST), 2);
    }

    private static void textBehindFaults() {
        by(8, "nothing of a TEXT with a FAULT is left");
        OneAlwaysUp x = new OneAlwaysUp();
        for (int n = 0; n < 4; n++) {
            due("a long one", read(x, "ship 9" + "+9".repeat(40)), -186);
        }
        due("a text", read(x, "ship 3;cart 4;change 5;"), 1);
        x.force(1);
        x.come(0, 0, 0);
        x.come(1, 0, 0);
        x.up(23, 1);
        due("told(0, 0, 5)", x.told(0, 0, 5), 3);
        due("told(1, 0, 5)", x.told(1, 0, 5), 4);
        due("plan(0)", x.plan(0), 3 + 4 + 5);
    }

    private static void textFull() {
        by(8, "6 TEXTS at most, TEXT 0 with them; FULL: THE TAPE stays");
        OneAlwaysUp x = new OneAlwaysUp();
        x.come(0, 100, 0);
        for (int n = 1; n < 6; n++) {
            due("text " + n, read(x, "ship " + n + REST), n);
        }
        due("a seventh", read(x, "ship 6" + REST), FULL);
        due("count(6)", x.count(6), ("ship 6" + REST).length());
        due("a seventh again", x.text(), FULL);
        due("count(5)", x.count(5), 6);
        due("a byte more", x.feed(32), ("ship 6" + REST).length() + 1);
        for (int n = 1; n < 6; n++) {
            x.force(n);
            due("what text " + n + " tells", x.told(0, 0, 5), n);
        }
        by(8, "FULL, whatever THE TAPE has");
        x = fullDay();
        due("a fault", x.text(), FULL);
        due("count(6)", x.count(6), 1);
    }

    private static void textThatFillsTheTape() {
        by(8, "THE TAPE (160 bytes at most)");
        String text = "ship " + "1+".repeat(68) + "2" + " ;cart 1;change 1;";
        due("its size", text.length(), 160);
        OneAlwaysUp x = ruled(text);
        x.come(0, 100, 0);
        due("68 and 2", x.told(0, 0, 5), 70);
        fault(text.substring(0, 159) + ")", 159);
        fault(text.substring(0, 159) + " ", 160);
        by(8, "a WORD that ends with THE TAPE");
        fault("ship " + "1+".repeat(74) + " waited", 160);
        fault("ship " + "1+".repeat(74) + " waites", 154);
    }

    private static void eachByte() {
        by(8, "a byte that begins none; SIGNS ( ) ; + - * < =; blanks (32, 10)");
        String signsAhead = "+-*<=";
        for (int c = 0; c < 256; c++) {
            String text = "ship 1" + (char) c + REST;
            if (c == 32 || c == 10 || c >= '0' && c <= '9') {
                reads(text);
            } else if (c == ';' || signsAhead.indexOf(c) >= 0) {
                fault(text, 7);
            } else {
                fault(text, 6);
            }
        }
        for (char sign : signsAhead.toCharArray()) {
            readsE("1" + sign + "2");
        }
    }

    private static void blanks() {
        by(8, "blanks (32, 10) may stand between");
        reads("ship 1;cart 1;change 1;");
        reads(" \n ship \n 1 \n ; \n cart \n 1 \n ; \n change \n 1 \n ; \n ");
        reads("ship(1);cart(1);change(1);");
        reads("ship1;cart1;change1;");
        reads("ship\n1;cart\n1;change\n1;");
        for (int c : new int[] {0, 9, 11, 13, 31, 33, 160}) {
            fault("ship" + (char) c + "1" + REST, 4);
            fault((char) c + "ship 1" + REST, 0);
        }
        by(8, "blanks end a TOKEN");
        fault("sh ip 1" + REST, 0);
        faultOfE("1 2", 2);
        faultOfE("wai ted", 0);
    }

    private static void words() {
        by(8, "WORDS (a .. z): a WORD that is neither KEY nor NAME");
        String[] names = {"waited", "price", "minute", "bridge", "was", "many"};
        for (String name : names) {
            readsE(name);
            faultOfE(name + "s", 0);
            faultOfE("a" + name, 0);
            faultOfE(name.substring(1), 0);
            faultOfE(name.substring(0, name.length() - 1), 0);
            faultOfE(name.substring(0, 1).toUpperCase() + name.substring(1), 0);
            faultOfE(name.substring(0, name.length() - 1) + (char) (name.charAt(name.length() - 1) + 1), 0);
        }
        faultOfE("a", 0);
        faultOfE("z", 0);
        faultOfE("waitedprice", 0);
        by(8, "ship, cart, change, or, and, not are KEYS");
        for (String key : new String[] {"ship", "cart", "change", "or", "and"}) {
            faultOfE(key, 0);
            faultOfE("1 + " + key, 4);
        }
        faultOfE("not", 3);
        String[] all = {"ship", "cart", "change", "or", "and", "not", "waited", "price", "minute", "bridge", "was", "many"};
        for (String word : all) {
            if (!word.equals("or") && !word.equals("and")) {
                faultOfE("1 " + word + " 1", 2);
            }
            String[] keys = {"ship", "cart", "change"};
            int place = 0;
            for (int k = 0; k < 3; k++) {
                String key = keys[k];
                keys[k] = word;
                String text = keys[0] + " 1;" + keys[1] + " 1;" + keys[2] + " 1;";
                if (word.equals(key)) {
                    reads(text);
                } else {
                    fault(text, place);
                }
                keys[k] = key;
                place += key.length() + 3;
            }
        }
        fault("ship 1;cart 1;ship 1;", 14);
        fault("ship 1;ship 1;change 1;", 7);
        fault("change 1;cart 1;ship 1;", 0);
        by(8, "each as long as can be");
        readsE("1or2and3");
        faultOfE("1 orwaited", 2);
        faultOfE("notwaited", 0);
        faultOfE("waitedor 1", 0);
    }

    private static void numbers() {
        by(8, "NUMBERS (digits, 4 at most); a NUMBER that is too long");
        for (String number : new String[] {"0", "9", "00", "99", "999", "9999", "0000", "0001"}) {
            readsE(number);
            worth(number, Math.min(99, Integer.parseInt(number)));
        }
        for (String number : new String[] {"00000", "00001", "10000", "99999", "9".repeat(40)}) {
            faultOfE(number, 0);
            faultOfE("1 + " + number, 4);
        }
        fault("ship 12345", 5);
        readsE("1234-5678");
        faultOfE("1234 5", 5);
    }

    private static void tokensAreLong() {
        by(8, "each as long as can be: digits and letters part each other");
        readsE("1and 2");
        faultOfE("waited2", 6);
        faultOfE("2waited", 1);
        readsE("not1");
        readsE("(1)and(2)or(3)");
        readsE("1--1");
    }

    private static void endsTooEarly() {
        by(8, "the text's size, if it ends too early");
        String text = "ship 1 ;cart 22 ;change (3) ;";
        // where the word stands that is cut off there, or -1
        int[] cut = new int[text.length()];
        java.util.Arrays.fill(cut, -1);
        for (String word : new String[] {"ship", "cart", "change"}) {
            int at = text.indexOf(word);
            for (int n = 1; n < word.length(); n++) {
                cut[at + n] = at;
            }
        }
        for (int n = 0; n < text.length(); n++) {
            fault(text.substring(0, n), cut[n] < 0 ? n : cut[n]);
        }
        reads(text);
        String[] begun = {"1 +", "1 -", "1 *", "1 <", "1 =", "1 or", "1 and", "not", "-", "(", "(1", "((1)", "not not", "- -", "1 + (2"};
        for (String e : begun) {
            fault("ship " + e, 5 + e.length());
            fault("ship " + e + " \n", 7 + e.length());
        }
    }

    private static void beyondTheEnd() {
        by(8, "the first TOKEN that can't stand there: behind a TEXT stands none");
        String text = "ship 1" + REST;
        for (String more : new String[] {";", "ship", "1", "(", "x", "?", "12345", "-", "not"}) {
            fault(text + more, text.length());
            fault(text + " \n" + more, text.length() + 2);
        }
        reads(text + " ");
    }

    private static void grammar() {
        by(8, "the first TOKEN that can't stand there");
        faultOfE("", 0);
        faultOfE("()", 1);
        faultOfE("(1", 2);
        faultOfE("1)", 1);
        faultOfE("(1))", 3);
        faultOfE("(1;2)", 2);
        faultOfE("1 (2)", 2);
        faultOfE("(1)(2)", 3);
        faultOfE("1 waited", 2);
        faultOfE("waited 1", 7);
        faultOfE("1 not 2", 2);
        for (String sign : new String[] {"+", "*", "<", "=", ")", ";"}) {
            faultOfE(sign + "1", 0);
            faultOfE("-" + sign + "1", 1);
            faultOfE("(" + sign + "1)", 1);
            faultOfE("not " + sign + "1", 4);
        }
        by(8, "NOT: not NOT, or SUM, perhaps < or = and a SUM");
        for (String a : new String[] {"<", "="}) {
            readsE("1" + a + "2");
            readsE("1" + a + "2 and 3" + a + "4 or not 5" + a + "6");
            readsE("(1" + a + "2)" + a + "3");
            faultOfE("1" + a + "not 2", 2);
            faultOfE("1" + a + a + "2", 2);
            for (String b : new String[] {"<", "="}) {
                faultOfE("1" + a + "2" + b + "3", 3);
                faultOfE("not 1" + a + "2" + b + "3", 7);
            }
        }
        by(8, "AND: NOT { and NOT }; E: AND { or AND }");
        readsE("1 and not 2 and not 3 or not 4 or 5");
        faultOfE("1 and and 2", 6);
        faultOfE("1 or or 2", 5);
        faultOfE("1 and or 2", 6);
        faultOfE("1 or and 2", 5);
        by(8, "SUM: TERM { + or - TERM }; TERM: ONE { * ONE }; ONE: a NUMBER, a NAME, - ONE, ( E )");
        readsE("1 + 2 - 3 * -4 * (5 or not 6) + -waited");
        for (String sign : new String[] {"+", "-", "*"}) {
            faultOfE("1 " + sign + " not 2", 4);
            faultOfE("1 " + sign + " + 2", 4);
            faultOfE("1 " + sign + " * 2", 4);
            readsE("1 " + sign + " - 2");
            readsE("1 " + sign + " (not 2)");
        }
        faultOfE("-not 1", 1);
        readsE("-(not 1)");
    }

    /** Every row of six of ( not - : the sixth can't stand, nor a not behind a - ; five can. */
    private static void open() {
        by(8, "a ( , a not, a - ahead of a ONE while 5 of these are open");
        String[] openers = {"(", "not ", "-"};
        for (int row = 0; row < 729; row++) {
            StringBuilder e = new StringBuilder();
            List<Integer> places = new ArrayList<>();
            int wrongAt = 5;
            int parens = 0;
            for (int k = 0, r = row; k < 6; k++, r /= 3) {
                places.add(e.length());
                if (k > 0 && k < wrongAt && r % 3 == 1 && e.charAt(e.length() - 1) == '-') {
                    wrongAt = k;
                }
                e.append(openers[r % 3]);
                parens += k < 5 && r % 3 == 0 ? 1 : 0;
            }
            faultOfE(e + "1" + ")".repeat(parens), places.get(wrongAt));
            if (row < 243 && wrongAt == 5) {
                readsE(e.substring(0, places.get(5)) + "1" + ")".repeat(parens));
            }
        }
    }

    private static void openEnds() {
        by(8, "open: a ( till its )");
        readsE("(((((1)))))+(((((1)))))");
        readsE("((((1)+(2))+(3))+((4)))");
        readsE("(((((1)+(2)))))");
        faultOfE("(((((1+(2))))))", 7);
        faultOfE("((((1)+(((2))))))", 9);
        by(8, "open: a not till what it belongs to ends");
        readsE("not not not not not 1 and not not not not not 1 or not not not not not 1");
        readsE("((((not 1 and -1))))");
        readsE("((((not 1 or not 1))))");
        faultOfE("((((not 1 < -1))))", 12);
        faultOfE("((((not 1 + (1)))))", 12);
        faultOfE("((((not 1 * -1))))", 12);
        faultOfE("not not not not not (1)", 20);
        faultOfE("not not not not not -1", 20);
        by(8, "open: a - till what it belongs to ends");
        readsE("-----1*-----1+-----1--1");
        readsE("----(1)*(-1)");
        readsE("((((-1+-1*-1<-1))))");
        faultOfE("-----(1)", 5);
        faultOfE("----(-1)", 5);
        readsE("1------1-1");
        faultOfE("1-------1", 7);
        by(8, "a - that is not ahead of a ONE opens nothing");
        readsE("(((((1-1-1-1-1-1-1)))))");
        faultOfE("(((((1- -1)))))", 8);
        by(8, "what is open does not last beyond a ;");
        reads("ship -----1;cart (((((1)))));change not not not not not 1;");
    }

    private static void firstFault() {
        by(8, "the first TOKEN that can't stand there, though a later byte begins none");
        faultOfE("1 2 ?", 2);
        faultOfE("1 + ? 2 3", 4);
        faultOfE("1 + 12345 ?", 4);
        faultOfE("hello ? 12345", 0);
        faultOfE("1 + + ((((((1", 4);
        fault("?", 0);
        fault("ship 1;cart 1;change 1;?", 23);
        fault("ship 1;cart 1;change ?;", 21);
    }

    private static void wraps() {
        by(8, "an E is an int (32 bits, wrapping)");
        worth(LEAST + " < 0", 1);
        worth(MOST + " < 0", 0);
        worth(MOST, 99);
        worth(LEAST, 0);
        worth(MOST + " + 1 = " + LEAST, 1);
        worth(LEAST + " - 1 = " + MOST, 1);
        worth("-" + "(" + LEAST + ") = " + LEAST, 1);
        worth(LEAST + " * 2 = 0", 1);
        worth(MOST + " * 2 = -2", 1);
        worth(MOST + " * " + MOST, 1);
        worth("9999 * 9999 * 9999 = -(8192 * 8192 * 32) + 9999 * 9999 * 9999 + 8192 * 8192 * 32", 1);
        by(8, "< is of the ints, not of what is left between them");
        worth(LEAST + " < " + MOST, 1);
        worth(MOST + " < " + LEAST, 0);
        worth(LEAST + " < 1", 1);
        worth("1 < " + LEAST, 0);
    }

    private static void truth() {
        by(8, "of or, and, not, <, = 1 or 0 (what is not 0 is true)");
        String[] no = {"0", "(1-1)", "(1<1)", "(2<1)", "(1=2)", LEAST + "*2"};
        String[] yes = {"1", "2", "-1", "9999", "(0<1)", "(1=1)", LEAST, "8192*8192*4"};
        for (String n : no) {
            worth("not " + n, 1);
            worth("not not " + n, 0);
            worth("50 * (" + n + " or 0)", 0);
            for (String y : yes) {
                worth("50 * (" + n + " or " + y + ")", 50);
                worth("50 * (" + y + " or " + n + ")", 50);
                worth("50 * (" + n + " and " + y + ")", 0);
                worth("50 * (" + y + " and " + n + ")", 0);
            }
        }
        for (String y : yes) {
            worth("not " + y, 0);
            worth("not not " + y, 1);
            worth("50 * (" + y + " and 2)", 50);
            worth("50 * (" + y + " or 2)", 50);
        }
        worth("50 * (2 < 3)", 50);
        worth("50 * (3 < 3)", 0);
        worth("50 * (3 < 2)", 0);
        worth("50 * (3 = 3)", 50);
        worth("50 * (3 = 2)", 0);
        worth("50 * (-1 < 0)", 50);
    }

    private static void binding() {
        by(8, "E: AND { or AND }. AND: NOT { and NOT }. NOT: not NOT, or SUM, perhaps < or = and a SUM");
        worth("1 or 0 and 0", 1);
        worth("0 and 0 or 1", 1);
        worth("0 and (0 or 1)", 0);
        worth("not 0 and 0", 0);
        worth("not (0 and 0)", 1);
        worth("not 1 or 1", 1);
        worth("not 1 = 2", 1);
        worth("(not 1) = 0", 1);
        worth("not 0 < 0", 1);
        worth("not 1 + 1", 0);
        worth("1 + 1 = 2", 1);
        worth("3 = 1 + 2", 1);
        worth("2 < 1 + 2", 1);
        worth("2 = 2 and 3", 1);
        by(8, "SUM: TERM { + or - TERM }. TERM: ONE { * ONE }: from the left");
        worth("90 - 40 - 30", 20);
        worth("90 - (40 - 30)", 80);
        worth("90 - 40 + 30", 80);
        worth("2 + 3 * 4 + 5", 19);
        worth("2 * 3 + 4 * 5", 26);
        worth("30 - 2 * 3", 24);
        worth("-2 * -3", 6);
        worth("-2 + 3", 1);
        worth("-(2 - 5)", 3);
        worth("9 - -9", 18);
        worth("--9", 9);
    }

    private static void bounds() {
        by(8, "ship, cart, change: what it costs (0 .. 99, else the bound)");
        String[] es = {"0", "1", "98", "99", "100", "9999", "-1", "-99", "-9999", LEAST, MOST};
        int[] want = {0, 1, 98, 99, 99, 99, 0, 0, 0, 0, 99};
        for (int k = 0; k < es.length; k++) {
            OneAlwaysUp x = ruled("ship " + es[k] + REST);
            x.come(0, 100, 0);
            due("a ship of " + es[k], x.told(0, 0, 5), want[k]);
            due("plan(0), a ship of " + es[k], x.plan(0), want[k]);
            x = ruled("ship 1;cart " + es[k] + ";change 1;");
            x.come(1, 100, 0);
            due("a cart of " + es[k], x.told(1, 0, 5), want[k]);
            due("plan(0), a cart of " + es[k], x.plan(0), want[k]);
            x = ruled("ship 1;cart 1;change " + es[k] + ";");
            x.up(0, 1);
            due("plan(0), a change of " + es[k], x.plan(0), want[k]);
            x.up(9, 1);
            due("plan(0), three changes of " + es[k] + ", each with its bound", x.plan(0), 3 * want[k]);
        }
    }

    private static void namesOfOne() {
        by(8, "of a SHIP, a CART: waited, price, minute (24: in none), bridge; was 0; many");
        String[] names = {"waited", "price", "minute", "bridge", "was+50", "many"};
        int[][] ship = {{19, 0, 14}, {7, 7, 7}, {24, 5, 19}, {2, 2, 2}, {50, 50, 50}, {2, 2, 2}};
        int[][] cart = {{15, 0, 14}, {4, 4, 4}, {24, 9, 23}, {1, 1, 1}, {50, 50, 50}, {2, 2, 2}};
        String[] rows = {"000000000111111111111111", "000002000000000000000000", "000000000111111111121110"};
        for (int k = 0; k < 6; k++) {
            OneAlwaysUp x = ruled("ship " + names[k] + ";cart " + names[k] + ";change 1;");
            x.come(0, 205, 7);
            x.come(1, 109, 4);
            for (int r = 0; r < 3; r++) {
                lay(x, rows[r]);
                due(names[k] + " of the ship by " + rows[r], x.told(0, 0, 5), ship[k][r]);
                if (r < 2) {
                    due(names[k] + " of the cart by " + rows[r], x.told(1, 0, 5), cart[k][r]);
                }
            }
        }
        by(8, "was 0, whatever was in a change");
        OneAlwaysUp y = ruled("ship was*50;cart was*50;change was*10;");
        y.come(0, 205, 1);
        y.come(1, 5, 1);
        lay(y, "111111111111000000000000");
        due("plan(0)", y.plan(0), 10);
        y.up(20, 2);
        due("of a ship", y.told(0, 0, 5), 0);
        lay(y, "000000000222222222222222");
        due("plan(0)", y.plan(0), 0);
        lay(y, "000000001000000000000002");
        due("plan(0)", y.plan(0), 10);
        due("of a cart", y.told(1, 0, 5), 0);
        by(8, "many: how many SHIPS and CARTS there are");
        OneAlwaysUp x = ruled("ship many;cart many;change 50+many;");
        x.up(0, 1);
        due("none", x.plan(0), 50);
        for (int n = 1; n <= 8; n++) {
            x.come(n % 2, 0, 0);
            due("of a change, " + n, x.plan(0), n * n + 50 + n);
        }
        due("of a ship", x.told(0, 3, 5), 8);
        due("of a cart", x.told(1, 3, 5), 8);
    }

    private static void namesOfChange() {
        by(8, "of a change: waited, price 0; minute: in which another BRIDGE is UP than in the one ahead; bridge: which is; was: which was");
        OneAlwaysUp x = ruled("ship 0;cart 0;change 60+waited+price;");
        x.come(0, 105, 9);
        x.up(0, 1);
        due("waited and price", x.plan(0), 60);
        x = ruled("ship 0;cart 0;change minute;");
        due("no change", x.plan(0), 0);
        x.up(23, 1);
        due("in minute 23", x.plan(0), 23);
        x.up(0, 1);
        due("and in minute 1; minute 0 has none", x.plan(0), 23 + 1);
        for (int was = 0; was < 3; was++) {
            for (int is = 0; is < 3; is++) {
                x = ruled("ship 0;cart 0;change 10*bridge+was+1;");
                lay(x, ("" + was).repeat(12) + ("" + is).repeat(12));
                due("from " + was + " to " + is, x.plan(0), was == is ? 0 : 10 * is + was + 1);
            }
        }
        by(8, "each change of a plan by its own minute, bridge and was");
        x = ruled("ship 0;cart 0;change 3*minute+9*bridge-4*was+8;");
        for (String row : new String[] {"012012012012012012012012", "021021021021021021021021", "010212010212010212010212", "002211002211002211002211"}) {
            lay(x, row);
            int sum = 0;
            for (int m = 1; m < 24; m++) {
                int is = row.charAt(m) - '0';
                int was = row.charAt(m - 1) - '0';
                sum += is == was ? 0 : 3 * m + 9 * is - 4 * was + 8;
            }
            due("plan(0) of " + row, x.plan(0), sum);
        }
    }

    private static void firstText() {
        by(8, "TEXT 0 is: ship waited * price ; cart waited * price ; change 1 ;");
        OneAlwaysUp x = new OneAlwaysUp();
        OneAlwaysUp y = ruled(FIRST);
        for (OneAlwaysUp o : new OneAlwaysUp[] {x, y}) {
            o.come(0, 117, 3);
            o.come(1, 19, 4);
            due("plan(0)", o.plan(0), 7 * 3 + 5 * 4);
            o.up(23, 1);
            due("plan(0)", o.plan(0), 6 * 3 + 4 * 4 + 1);
        }
    }

    private static void force() {
        by(9, "a TEXT is THE RULE: which was; BAD");
        OneAlwaysUp x = new OneAlwaysUp();
        x.come(0, 100, 0);
        due("the only one", x.force(0), 0);
        for (int n = 1; n < 6; n++) {
            due("none such yet", x.force(n), BAD);
            due("text " + n, read(x, "ship 10*" + n + REST), n);
            due("force(" + n + ")", x.force(n), n - 1);
            due("count(7)", x.count(7), n);
            due("what it costs", x.told(0, 0, 5), 10 * n);
        }
        for (int text : beyond(0, 5)) {
            due("force(" + text + ")", x.force(text), BAD);
        }
        due("count(7)", x.count(7), 5);
        due("force(5) again", x.force(5), 5);
        due("force(0)", x.force(0), 5);
        due("what it costs", x.told(0, 0, 5), 0);
        by(9, "a TEXT with a FAULT is none");
        x = new OneAlwaysUp();
        read(x, "ship 1");
        due("force(1)", x.force(1), BAD);
        due("its number is for the next one", read(x, "ship 1" + REST), 1);
    }
}
