/** Each sentence on the tape, texts, laws and the rule that names an edge: promises 9 to 12. */
public final class TextEdgesTest {
    private static final Check CHECK = new Check("TextEdgesTest");
    private static final int BAD = ThumbOut.BAD;
    private static final int FULL = ThumbOut.FULL;
    private static final int NOT = ThumbOut.NOT;
    private static final int VOID = ThumbOut.VOID;
    private static final int LOW = Integer.MIN_VALUE;
    private static final int HIGH = Integer.MAX_VALUE;

    private static final String DIGITS = "0123456789";
    private static final String NAMES = "ruhtwsdabm";
    private static final String OPENING = "(!-";
    private static final String BEGIN = DIGITS + NAMES + OPENING;
    private static final String COMPARING = "<=>";
    private static final String JOINING = "|&+-*/%";

    public static void main(String[] args) {
        feedBytes();
        feedFull();
        lawNumbers();
        lawFull();
        lawEmptiesTheTape();
        lawOfNothing();
        lawOfAFullTape();
        ruleAnswers();
        ruleEmptiesTheTape();
        ruleFaultChangesNothing();
        ruleIsNeverFull();
        forceNone();
        forceVoid();
        firstBytes();
        numbers();
        comparisons();
        brackets();
        sixOpen();
        sixOpenAtOnce();
        linesAndQuestions();
        endsTooEarly();
        noBlanks();
        wraps();
        towardZero();
        byZero();
        oneOrZero();
        leftToRight();
        tighterFirst();
        theLineThatCounts();
        noLineCounts();
        lawsBelowAndAbove();
        namesOfPlaces();
        namesOfHours();
        namesOfSettings();
        namesOfDanger();
        lawsWithoutFarAndWaiting();
        ruleNotZero();
        ruleWithoutAText();
        ruleNamesWithoutALaw();
        ruleFar();
        ruleWaiting();
        CHECK.end();
    }

    private static void due(String call, long got, long want) {
        CHECK.due(call, got, want);
    }

    /** "A byte (0 .. 255) comes to THE TAPE: how many it has. BAD" */
    private static void feedBytes() {
        ThumbOut x = new ThumbOut();
        int[] bad = {-1, -2, -256, 256, 257, 65536 + 'r', LOW, HIGH};
        for (int letter : bad) {
            due("9: feed(" + letter + ")", x.feed(letter), BAD);
            due("9: none came", x.count(3), 0);
        }
        due("9: least", x.feed(0), 1);
        due("9: most", x.feed(255), 2);
        due("9: count(3)", x.count(3), 2);
    }

    /** "FULL (120)"; of several BAD first. */
    private static void feedFull() {
        ThumbOut x = new ThumbOut();
        for (int i = 1; i <= 120; i++) {
            due("9: byte " + i, x.feed('7'), i);
        }
        due("9: a 121st", x.feed('7'), FULL);
        due("9: and another", x.feed(0), FULL);
        due("9: count(3)", x.count(3), 120);
        due("9: BAD ahead of FULL", x.feed(-1), BAD);
        due("9: BAD ahead of FULL", x.feed(256), BAD);
        due("9: the bytes are those that came", x.law(), -104);
        due("9: then one may come", x.feed('7'), 1);
    }

    /** "LAWS 0 .. 3 of stopping, as they come"; "its number" */
    private static void lawNumbers() {
        ThumbOut x = Check.places(2);
        x.road(1, 60, 100);
        for (int i = 0; i < 4; i++) {
            due("10: law " + i, Check.law(x, "" + (100 + i)), i);
            due("10: count(2)", x.count(2), i + 1);
        }
        for (int i = 0; i < 4; i++) {
            x.force(i);
            Check.draw(x, 0, 0, 99 + i);
            due("10: below law " + i, x.car(0, 0, 2), 1);
            Check.draw(x, 0, 0, 100 + i);
            due("10: not below law " + i, x.car(0, 0, 2), 0);
        }
    }

    /** "FULL: 4 (it stays)." */
    private static void lawFull() {
        ThumbOut x = new ThumbOut();
        for (int i = 0; i < 4; i++) {
            Check.law(x, "1");
        }
        due("10: full and an empty tape", x.law(), FULL);
        Check.feed(x, "12");
        due("10: full", x.law(), FULL);
        due("10: full still", x.law(), FULL);
        due("10: the tape stays", x.count(3), 2);
        due("10: no fifth", x.count(2), 4);
        due("10: no fifth", x.force(4), VOID);
        due("10: the tape goes on", x.feed('3'), 3);
        due("11: for the rule there is room", x.rule(), 1);
    }

    /** "THE TAPE is empty then", behind a LAW and behind a FAULT. */
    private static void lawEmptiesTheTape() {
        ThumbOut x = new ThumbOut();
        due("10: a law", Check.law(x, "r"), 0);
        due("10: empty", x.count(3), 0);
        due("10: a fault", Check.law(x, "rr"), -101);
        due("10: empty", x.count(3), 0);
        due("10: no law came", x.count(2), 1);
        due("10: a first byte", x.feed('r'), 1);
        due("10: law 1", x.law(), 1);
    }

    /** "the length, if it ends too early": of no bytes it is 0. */
    private static void lawOfNothing() {
        ThumbOut x = new ThumbOut();
        due("10: law()", x.law(), -100);
        due("11: rule()", x.rule(), -100);
        due("10: count(2)", x.count(2), 0);
    }

    private static String times(String text, int n) {
        StringBuilder t = new StringBuilder();
        for (int i = 0; i < n; i++) {
            t.append(text);
        }
        return t.toString();
    }

    /** "A TEXT by THE TAPE (at most 120 bytes)": one of 120, and what ends too early there. */
    private static void lawOfAFullTape() {
        fault("12" + times("+1", 59), -1);
        fault("1" + times(";1", 59), -1);
        fault("12" + times(";1", 59), -1);
        fault(times("1+", 60), 120);
        fault(times("1;", 60), 120);
        fault(times("1?1;", 30), 120);
        fault(times("1?1;", 29) + "1?12", -1);
        fault(times("1+", 59) + "r1", 119);
        fault(times("1+", 58) + "1234", -1);
        fault("12345" + times("+r", 57), 4);
    }

    /** Whether a text is one (-1) or where its fault is, as a law and as the rule. */
    private static void fault(String text, int place) {
        ThumbOut x = new ThumbOut();
        due("10: law() of " + text, Check.law(x, text), place < 0 ? 0 : -100 - place);
        due("11: rule() of " + text, Check.rule(x, text), place < 0 ? 1 : -100 - place);
        due("11: rule() alone of " + text, Check.rule(new ThumbOut(), text), place < 0 ? 1 : -100 - place);
    }

    /** Two places, a road of 60 cars an hour and 20 minutes to the goal; only car 0 stops, by its draw of 0. */
    private static ThumbOut ride() {
        ThumbOut x = Check.places(2);
        x.road(1, 60, 2042);
        x.set(0, 1);
        Check.draw(x, 0, 0, 0);
        return x;
    }

    /** "THE TAPE becomes THE RULE: 1" */
    private static void ruleAnswers() {
        ThumbOut x = ride();
        due("11: without", x.goes(0, 0), 0);
        due("11: rule()", Check.rule(x, "0"), 1);
        due("11: not in", x.goes(0, 0), BAD);
        due("11: rule() again", Check.rule(x, "1"), 1);
        due("11: in", x.goes(0, 0), 0);
    }

    /** "THE TAPE is empty then", behind THE RULE and behind a FAULT. */
    private static void ruleEmptiesTheTape() {
        ThumbOut x = new ThumbOut();
        due("11: the rule", Check.rule(x, "r"), 1);
        due("11: empty", x.count(3), 0);
        due("11: a fault", Check.rule(x, "rr"), -101);
        due("11: empty", x.count(3), 0);
        due("11: a first byte", x.feed('r'), 1);
        due("11: the rule", x.rule(), 1);
    }

    /** "-100 less its FAULT": THE RULE, or that there is none, stays. */
    private static void ruleFaultChangesNothing() {
        ThumbOut x = ride();
        due("11: a fault", Check.rule(x, "0+"), -102);
        due("11: still none", x.goes(0, 0), 0);
        Check.rule(x, "0");
        due("11: a fault", Check.rule(x, "1+"), -102);
        due("11: still not in", x.goes(0, -1), NOT);
        due("11: nothing on the tape", x.rule(), -100);
        due("11: still not in", x.goes(0, -1), NOT);
    }

    /** Only LAWS may be FULL. */
    private static void ruleIsNeverFull() {
        ThumbOut x = new ThumbOut();
        for (int i = 0; i < 9; i++) {
            due("11: rule " + i, Check.rule(x, "" + i), 1);
        }
        for (int i = 0; i < 4; i++) {
            due("10: law " + i, Check.law(x, "1"), i);
        }
        due("11: beside four laws", Check.rule(x, "1"), 1);
        due("11: a fault beside four laws", Check.rule(x, "x"), -100);
    }

    /** "one is IN FORCE, or none (-1, at first)"; "which was" */
    private static void forceNone() {
        ThumbOut x = new ThumbOut();
        due("12: at first", x.force(-1), -1);
        for (int i = 0; i < 4; i++) {
            Check.law(x, "1");
            due("12: a law that comes is not in force", x.force(i), i - 1);
        }
        due("12: none", x.force(-1), 3);
        due("12: it was none", x.force(-1), -1);
    }

    /** "VOID: BAD." */
    private static void forceVoid() {
        ThumbOut x = new ThumbOut();
        for (int laws = 0; laws <= 4; laws++) {
            int[] bad = {laws, laws + 1, 4, 5, 100, HIGH, -2, -3, LOW};
            for (int law : bad) {
                due("12: of " + laws + " laws, force(" + law + ")", x.force(law), VOID);
            }
            due("12: VOID changes nothing", x.force(laws - 1), laws < 2 ? -1 : laws - 2);
            if (laws < 4) {
                Check.law(x, "1");
            }
        }
    }

    /** Of all bytes behind a text's beginning, those with which a TEXT goes on. */
    private static void goesOn(String begun, String with) {
        int at = begun.length();
        for (int b = 0; b < 256; b++) {
            String text = begun + (char) b;
            boolean on = with.indexOf((char) b) >= 0;
            int law = Check.law(new ThumbOut(), text);
            boolean asDue = on ? law == 0 || law == -100 - (at + 1) : law == -100 - at;
            due("10: " + begun + " and byte " + b + ": law() answered " + law + ", it is as due", asDue ? 1 : 0, 1);
            int rule = Check.rule(new ThumbOut(), text);
            due("11: " + begun + " and byte " + b + ": rule()", rule, law == 0 ? 1 : law);
        }
    }

    /** "FAULT: the place (from 0) of the first byte with which no TEXT goes on" */
    private static void firstBytes() {
        goesOn("", BEGIN);
        goesOn("r", JOINING + COMPARING + "?;");
        for (int i = 0; i < NAMES.length(); i++) {
            fault(NAMES.substring(i, i + 1), -1);
            fault(NAMES.substring(i, i + 1) + "0", 1);
            fault("0" + NAMES.substring(i, i + 1), 1);
        }
        String[] signs = {"|", "&", "<", "=", ">", "+", "-", "*", "/", "%"};
        for (String sign : signs) {
            goesOn("r" + sign, BEGIN);
            fault("r" + sign + "u", -1);
        }
        fault("q()", 0);
        fault("1+x+x", 2);
    }

    /** "a number (1 to 4 digits)" */
    private static void numbers() {
        goesOn("1", DIGITS + JOINING + COMPARING + "?;");
        goesOn("123", DIGITS + JOINING + COMPARING + "?;");
        goesOn("1234", JOINING + COMPARING + "?;");
        goesOn("0000", JOINING + COMPARING + "?;");
        fault("12345", 4);
        fault("00000", 4);
        fault("1+12345", 6);
        fault("1?12345", 6);
        fault("1;12345", 6);
        fault("(12345)", 5);
        fault("!12345", 5);
        fault("-12345", 5);
        gives("0", 0);
        gives("0007", 7);
        gives("0123", 123);
        gives("999", 999);
        is("9999", 9999);
    }

    /** "B = S, or S < S, S = S, S > S": one comparison, until | or & or in brackets anew. */
    private static void comparisons() {
        for (int i = 0; i < 3; i++) {
            String sign = COMPARING.substring(i, i + 1);
            goesOn("r" + sign + "u", JOINING + "?;");
            goesOn("r" + sign + "u+h", JOINING + "?;");
            goesOn("r" + sign + "u*h", JOINING + "?;");
            goesOn("r" + sign + "u|h", JOINING + COMPARING + "?;");
            goesOn("r" + sign + "u&h", JOINING + COMPARING + "?;");
            goesOn("(r" + sign + "u)", JOINING + COMPARING + "?;");
            goesOn("r" + sign + "(u", JOINING + COMPARING + ")");
            goesOn("(r" + sign + "u", JOINING + ")");
            goesOn("(r)" + sign + "u", JOINING + "?;");
            goesOn("r" + sign + "(u" + sign + "h)", JOINING + "?;");
        }
    }

    /** "( E )" */
    private static void brackets() {
        goesOn("(", BEGIN);
        goesOn("(r", JOINING + COMPARING + ")");
        goesOn("(r)", JOINING + COMPARING + "?;");
        goesOn("((r)", JOINING + COMPARING + ")");
        goesOn("(r|u", JOINING + COMPARING + ")");
        fault("()", 1);
        fault(")", 0);
        fault("(r))", 3);
        fault("(r?u)", 2);
        fault("(r;u)", 2);
        fault("(1)(2)", 3);
        fault("r(u)", 1);
    }

    /** "At most 6 of ( ! - ahead of an O are open" */
    private static void sixOpen() {
        String[] six = {"((((((", "!!!!!!", "------", "(!-(!-", "-!(-!(", "!(!(!(", "!!!---"};
        for (String s : six) {
            goesOn(s.substring(1), BEGIN);
            goesOn(s, DIGITS + NAMES);
            goesOn("1?" + s, DIGITS + NAMES);
            goesOn("1;" + s, DIGITS + NAMES);
            goesOn("1-" + s, DIGITS + NAMES);
        }
        for (int open = 1; open <= 8; open++) {
            fault(times("(", open) + "r" + times(")", open), open <= 6 ? -1 : 6);
            fault(times("!", open) + "r", open <= 6 ? -1 : 6);
            fault(times("-", open) + "r", open <= 6 ? -1 : 6);
            fault("1" + times("-", open) + "r", open <= 7 ? -1 : 8);
        }
    }

    /** ".. open at once": what is closed counts no more. */
    private static void sixOpenAtOnce() {
        goesOn("((((((r)", JOINING + COMPARING + ")");
        goesOn("(((((r+", BEGIN);
        goesOn("((((((r+", DIGITS + NAMES);
        goesOn("((((((r)+", BEGIN);
        goesOn("(((((!r+", BEGIN);
        goesOn("(((((!", DIGITS + NAMES);
        goesOn("!!!!!!r+", BEGIN);
        goesOn("------r-", BEGIN);
        goesOn("((((((r))))))+", BEGIN);
        goesOn("((((((r))))))?", BEGIN);
        goesOn("((((((r))))));", BEGIN);
        fault("((((((r))))))*((((((r))))))", -1);
        fault("!!!!!!r<------u", -1);
        fault("(!!!!!r|!!!!!u)", -1);
        fault("(!!!!!!r)", 6);
        fault("(!!!!!r|!!!!!!u)", 13);
        fault("1-1-1-1-1-1-1-1-1-1", -1);
    }

    /** "LINES, one or more, parted by ;"; "LINE: E, or E ? E" */
    private static void linesAndQuestions() {
        goesOn("r?", BEGIN);
        goesOn("r?u", JOINING + COMPARING + ";");
        goesOn("r?u|h", JOINING + COMPARING + ";");
        goesOn("r?u<h", JOINING + ";");
        goesOn("r|u<h?w", JOINING + COMPARING + ";");
        goesOn("r;", BEGIN);
        goesOn("r;u", JOINING + COMPARING + "?;");
        goesOn("r?u;", BEGIN);
        goesOn("r?u;h", JOINING + COMPARING + "?;");
        goesOn("r?u;h?w", JOINING + COMPARING + ";");
        fault(";", 0);
        fault("?", 0);
        fault(";r", 0);
        fault("r;;u", 2);
        fault("r?;u", 2);
        fault("r??u", 2);
        fault("r?u?h", 3);
        fault("r?u;?h", 4);
        fault("1?1|1;0|1", -1);
    }

    /** "the length, if it ends too early" */
    private static void endsTooEarly() {
        String[] early = {"", "(", "!", "-", "((((((", "1+", "1-", "1*", "1/", "1%", "1|", "1&", "1<", "1=", "1>", "1?", "1;",
            "(1", "(1+2", "((1)", "1?2;", "1?2;3?", "1;2;3;", "!(", "(1)+(", "r<u<"};
        for (String text : early) {
            boolean twice = text.equals("r<u<");
            fault(text, twice ? 3 : text.length());
        }
    }

    /** "No blanks." */
    private static void noBlanks() {
        String[] blanks = {" ", "\t", "\n", "\r", "\0", (char) 160 + ""};
        for (String blank : blanks) {
            fault(blank, 0);
            fault(blank + "r", 0);
            fault("r" + blank, 1);
            fault("r" + blank + "+u", 1);
            fault("r+" + blank + "u", 2);
            fault("1" + blank + "2", 1);
        }
    }

    /** Whether a text gives a value (from 1 to 999, or 0 and below, or 1000 and above) as a law, to the one. */
    private static void gives(String text, int value) {
        ThumbOut x = ride();
        due("10: law() of " + text, x.force(Check.law(x, text)), -1);
        if (value > 0) {
            Check.draw(x, 0, 0, Math.min(value, 1000) - 1);
            due("10: " + text + " gives " + value + " at least", x.car(0, 0, 2), 1);
        }
        if (value < 1000) {
            Check.draw(x, 0, 0, Math.max(value, 0));
            due("10: " + text + " gives " + value + " at most", x.car(0, 0, 2), 0);
        }
        Check.draw(x, 0, 0, 0);
        x.force(-1);
        due("11: rule() of " + text, Check.rule(x, text), 1);
        due("11: " + text + " gives " + value, x.goes(0, 0) == 0 ? 1 : 0, value != 0 ? 1 : 0);
    }

    /** A number of any size in letters of a text, within brackets. */
    private static String told(int value) {
        if (value == LOW) {
            return "(2048*1024*1024)";
        }
        int size = Math.abs(value);
        String sum = size < 10000 ? "" + size
            : size / 1000 < 10000 ? size / 1000 + "*1000+" + size % 1000
            : size / 1000000 + "*1000*1000+" + size / 1000 % 1000 + "*1000+" + size % 1000;
        return value < 0 ? "(-(" + sum + "))" : "(" + sum + ")";
    }

    /** Whether what stands in one S gives a value. */
    private static void is(String sum, int value) {
        gives("(" + sum + "=" + told(value) + ")*1000", 1000);
        gives("1000*!(" + sum + "-" + told(value) + ")", 1000);
    }

    /** "Ints that wrap" */
    private static void wraps() {
        is("2147*1000*1000+483*1000+647", HIGH);
        is("2147*1000*1000+483*1000+648", LOW);
        is("-(2147*1000*1000+483*1000+648)", LOW);
        is("-(2147*1000*1000+483*1000+648)-1", HIGH);
        is("2048*1024*1024", LOW);
        is("-(2048*1024*1024)", LOW);
        is("2048*1024*1024-1", HIGH);
        is("4096*1024*1024", 0);
        is("9999*9999*9999", 9999 * 9999 * 9999);
        is("9999*9999*9999*9999", 9999 * 9999 * 9999 * 9999);
        is("2048*1024*1024*-1", LOW);
        is("2048*1024*1024/-1", LOW);
        is("2048*1024*1024%-1", 0);
        gives("(2048*1024*1024<2048*1024*1024-1)*1000", 1000);
        gives("(2048*1024*1024>2048*1024*1024-1)*1000", 0);
    }

    /** "/ and % toward 0" */
    private static void towardZero() {
        int[] tops = {7, -7, 1, -1, 0, 9999, -9999, 6, -6};
        int[] bottoms = {2, -2, 3, -3, 7, -7, 8, -8, 9999, 1, -1};
        for (int a : tops) {
            for (int b : bottoms) {
                String top = a < 0 ? "(-" + -a + ")" : "" + a;
                is(top + "/" + b, a / b);
                is(top + "%" + b, a % b);
            }
        }
        is("-7/2", -3);
        is("-7%2", -1);
    }

    /** "by 0 they give 0" */
    private static void byZero() {
        String[] tops = {"7", "0", "(-7)", "9999", "(2048*1024*1024)"};
        for (String top : tops) {
            is(top + "/0", 0);
            is(top + "%0", 0);
            is(top + "/(3-3)", 0);
            is(top + "%(3-3)", 0);
            is(top + "/0*5+3", 3);
            is(top + "%0+3", 3);
        }
        gives("0&7/0|5", 1);
        gives("1|7/0", 1);
        gives("7/0?5;6", 6);
    }

    /** "| & < = > ! give 1, 0" */
    private static void oneOrZero() {
        int[] values = {0, 1, 2, 7, -1, -7};
        for (int a : values) {
            for (int b : values) {
                String left = a < 0 ? "-" + -a : "" + a;
                String right = b < 0 ? "-" + -b : "" + b;
                gives(left + "|" + right, a != 0 || b != 0 ? 1 : 0);
                gives(left + "&" + right, a != 0 && b != 0 ? 1 : 0);
                gives(left + "<" + right, a < b ? 1 : 0);
                gives(left + "=" + right, a == b ? 1 : 0);
                gives(left + ">" + right, a > b ? 1 : 0);
            }
            gives("!" + (a < 0 ? "-" + -a : "" + a), a == 0 ? 1 : 0);
            gives("!!" + (a < 0 ? "-" + -a : "" + a), a == 0 ? 0 : 1);
        }
    }

    /** Of signs of one kind that on the left joins first. */
    private static void leftToRight() {
        is("9-3-2", 4);
        is("9-3+2", 8);
        is("48/4/3", 4);
        is("48/4*3", 36);
        is("48%9*2", 6);
        is("2*48%9", 6);
        is("7%4/2", 1);
        gives("5&0|3", 1);
        gives("5|0&0", 1);
        gives("0&0|0&1", 0);
    }

    /** "E = A { | A }. A = B { & B }. B = S .. S = P { + P, - P }. P = O { * O, / O, % O }. O = .. ! O, - O, ( E )." */
    private static void tighterFirst() {
        is("2+3*4", 14);
        is("2*3+4", 10);
        is("20-8/4", 18);
        is("(2+3)*4", 20);
        is("2*(3+4)", 14);
        is("-2*3", -6);
        is("-2+3", 1);
        is("-(2+3)", -5);
        is("5--3", 8);
        is("5-!3", 5);
        is("!0+1", 2);
        is("!0*5", 5);
        is("!(0+1)", 0);
        is("-!0", -1);
        is("!-5", 0);
        gives("1+1<3", 1);
        gives("1<2+3", 1);
        gives("1<2&3", 1);
        gives("0&1<2", 0);
        gives("5=2|3", 1);
        gives("1|5=2", 1);
        gives("1|0&0", 1);
        gives("(1|0)&0", 0);
        gives("0|1*7", 1);
        gives("(0|1)*7", 7);
    }

    /** "The first LINE without a first E, or whose first E is not 0, counts" */
    private static void theLineThatCounts() {
        gives("5", 5);
        gives("5;6", 5);
        gives("0;6", 0);
        gives("1?5;6", 5);
        gives("0?5;6", 6);
        gives("2?5;6", 5);
        gives("0-1?5;6", 5);
        gives("1?0;6", 0);
        gives("0?5;0?6;7;8", 7);
        gives("0?5;1?6;7", 6);
        gives("0?5;6;1?7", 6);
        gives("0|1?5;6", 5);
        gives("0&1?5;6", 6);
        gives("1?0|7;6", 1);
        gives("0?1;0?2;0?3;0?4;0?5;0?6;0?7;0?8;1?9;10", 9);
    }

    /** "none: 0" */
    private static void noLineCounts() {
        gives("0?5", 0);
        gives("0?5;0?6", 0);
        gives("0?5;1-1?6;0*7?7", 0);
        gives("1?5;0?6", 5);
    }

    /** "a car STOPS .. if its DRAW is below what the LAW gives" */
    private static void lawsBelowAndAbove() {
        gives("1", 1);
        gives("999", 999);
        gives("1000", 1000);
        gives("1001", 1001);
        gives("9999", 9999);
        gives("0-1", -1);
        gives("-9999", -9999);
        gives("2048*1024*1024", LOW);
        gives("2048*1024*1024-1", HIGH);
    }

    /** "r ROOM, u PUMPS of the PLACE": from which the ROAD leads. */
    private static void namesOfPlaces() {
        for (int room = 0; room <= 9; room++) {
            ThumbOut x = new ThumbOut();
            x.place(10 * room + room % 2);
            x.place(10 * (9 - room) + 1 - room % 2);
            x.road(1, 60, 2042);
            due("10: r, room " + room, lawGives(x, "r", room), 1);
            due("10: u, room " + room, lawGives(x, "u", room % 2), 1);
            x.mend(0, 0, 9 - room);
            due("10: r, mended", lawGives(x, "r", 9 - room), 1);
        }
    }

    /** Whether a text gives a value to the first car of the first road. */
    private static int lawGives(ThumbOut x, String text, int value) {
        int law = Check.law(x, "(" + text + "=" + value + ")*1000");
        x.force(law);
        Check.draw(x, 0, 0, 999);
        return x.car(0, 0, 2);
    }

    /** "h the MINUTE by 60 (cut)" */
    private static void namesOfHours() {
        for (int hour = 0; hour < 24; hour++) {
            ThumbOut x = ride();
            Check.force(x, "(h=" + hour + ")*1000");
            int[] minutes = {0, 59, 60 * hour - 1, 60 * hour, 60 * hour + 59, 60 * hour + 60, 1439};
            for (int j : minutes) {
                if (j >= 0 && j < 1440) {
                    due("10: h = " + hour + " in minute " + j, x.car(0, j, 2), j / 60 == hour ? 1 : 0);
                }
            }
            x.mend(0, 1, 1);
            due("10: h = " + hour + ", one car an hour", x.waits(0, 0), 60 * hour);
            due("10: in the hour behind", x.waits(0, 60 * hour + 1), NOT);
        }
    }

    /** "t PERSONS, w WET, s 1, if the ROAD leads to SIGN" */
    private static void namesOfSettings() {
        ThumbOut x = ride();
        Check.law(x, "(t=2)*1000");
        Check.law(x, "(w=1)*1000");
        Check.law(x, "(s=1)*1000");
        Check.law(x, "(t=1&w=0&s=0)*1000");
        int[][] settings = {{1, 0, -1}, {2, 0, -1}, {1, 1, -1}, {1, 0, 1}, {1, 0, 0}, {1, 0, 2}, {1, 0, 7}, {2, 1, 1}};
        for (int[] s : settings) {
            x.set(2, s[0]);
            x.set(3, s[1]);
            x.set(4, s[2]);
            boolean[] due = {s[0] == 2, s[1] == 1, s[2] == 1, s[0] == 1 && s[1] == 0 && s[2] != 1};
            for (int law = 0; law < 4; law++) {
                x.force(law);
                due("10: law " + law + " with " + s[0] + ", " + s[1] + ", " + s[2], x.car(0, 0, 2), due[law] ? 1 : 0);
            }
        }
    }

    /** "d DANGER of the ROAD" */
    private static void namesOfDanger() {
        int[] dangers = {0, 1, 50, 98, 99};
        for (int d : dangers) {
            ThumbOut x = Check.places(2);
            x.road(1, 60, 2000 + d);
            x.road(1, 60, 2000 + 99 - d);
            due("10: d of danger " + d, lawGives(x, "d", d), 1);
            x.mend(0, 2, 99 - d);
            due("10: d, mended", lawGives(x, "d", 99 - d), 1);
        }
    }

    /** "(For LAWS a, b, m are 0.)" */
    private static void lawsWithoutFarAndWaiting() {
        String[] names = {"a", "b", "m"};
        for (String name : names) {
            ThumbOut x = Check.places(3);
            x.road(1, 1, 700);
            x.road(12, 1, 900);
            for (int goal = 0; goal < 4; goal++) {
                x.set(0, goal);
                due("10: " + name + " with goal " + goal, lawGives(x, name, 0), 1);
            }
            x.set(0, 2);
            Check.rule(x, "m>150");
            due("10: " + name + " behind the rule's", x.goes(1, -1), 369);
        }
    }

    /** "THE RULE of getting in: not 0: one gets in; without a text: if a is below b." */
    private static void ruleNotZero() {
        String[] in = {"1", "2", "-1", "0-9999", "2048*1024*1024", "1;0", "0?0;1"};
        String[] out = {"0", "1-1", "0?1", "0;1", "1?0;1", "4096*1024*1024"};
        for (String text : in) {
            ThumbOut x = ride();
            Check.rule(x, text);
            due("11: in by " + text, x.goes(0, -1), 20);
        }
        for (String text : out) {
            ThumbOut x = ride();
            Check.rule(x, text);
            due("11: not in by " + text, x.goes(0, -1), NOT);
        }
    }

    /** "without a text: if a is below b": not if they are alike, nor if a is above. */
    private static void ruleWithoutAText() {
        ThumbOut x = Check.places(4);
        x.road(2, 60, 500);
        x.road(3, 60, 100);
        x.road(1, 1, 2000);
        x.road(21, 60, 2000);
        x.road(31, 60, 2100);
        x.set(0, 1);
        Check.force(x, "1000");
        due("11: as far from there", x.far(21), x.far(1));
        due("11: alike is not below", x.goes(1, 0), 2);
        due("11: farther is not below", x.goes(1, -1), 80);
        x.road(23, 60, 100);
        x.road(31, 60, 1800);
        due("11: nearer by one is below", x.goes(1, 0), 1);
        x.set(0, 7);
        due("11: none from here, none from there", x.goes(1, 0), BAD);
    }

    /** The names as THE RULE knows them, with no LAW in force. */
    private static void ruleNamesWithoutALaw() {
        String[] texts = {"r=7", "u=1", "h=0", "t=2", "w=1", "s=1", "d=42", "a=0", "b=20", "m=0"};
        String[] others = {"r=3", "u=0", "h=1", "t=1", "w=0", "s=0", "d=41", "a=20", "b=0", "m=1"};
        for (int i = 0; i < texts.length; i++) {
            for (int which = 0; which < 2; which++) {
                ThumbOut x = new ThumbOut();
                x.place(71);
                x.place(30);
                x.road(1, 60, 2042);
                x.set(0, 1);
                x.set(2, 2);
                x.set(3, 1);
                x.set(4, 1);
                Check.draw(x, 0, 59, 0);
                Check.rule(x, which == 0 ? texts[i] : others[i]);
                due("11: " + (which == 0 ? texts : others)[i], x.goes(59, -1) == 79 ? 1 : 0, 1 - which);
            }
        }
    }

    /** "a how FAR the GOAL is from where the ROAD leads, b from the PLACE"; "none: 9999" */
    private static void ruleFar() {
        ThumbOut x = Check.places(4);
        x.road(1, 1, 700);
        x.road(12, 1, 900);
        x.set(0, 2);
        Check.force(x, "1000");
        Check.rule(x, "a=9&b=16|a=0&b=9");
        due("11: far", x.goes(0, -1), 69);
        x.set(0, 3);
        Check.rule(x, "a=9999&b=9999");
        due("11: no roads to the goal", x.goes(0, 1), 1);
        x.set(0, 7);
        due("11: no such goal", x.goes(0, 1), 1);
        x.set(0, 1);
        Check.rule(x, "a=0&b=7");
        due("11: at the goal", x.goes(0, -1), 7);
        x.set(0, 0);
        Check.rule(x, "a=9999&b=9999");
        due("11: not back from there", x.goes(10000, 0), 1);
    }

    /** "m how many MINUTES one has waited there": from when one came to the place on. */
    private static void ruleWaiting() {
        for (int m = 0; m <= 3; m++) {
            ThumbOut x = Check.places(3);
            x.road(1, 60, 700);
            x.road(12, 60, 900);
            x.set(0, 2);
            Check.force(x, "1000");
            Check.rule(x, "m=" + m);
            due("11: m = " + m, x.goes(100, -1), 100 + m + 7 + m + 9);
            Check.rule(x, "m>" + m);
            due("11: m > " + m, x.goes(100, -1), 100 + m + 1 + 7 + m + 1 + 9);
        }
    }
}
