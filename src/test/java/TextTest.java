/** Promises 9 to 12: the tape, laws, the rule, and what texts give. */
public final class TextTest {
    private static final Check CHECK = new Check("TextTest");

    public static void main(String[] args) {
        tape();
        laws();
        rule();
        force();
        faults();
        worths();
        names();
        ruleNames();
        CHECK.end();
    }

    private static void due(String call, long got, long want) {
        CHECK.due(call, got, want);
    }

    private static void tape() {
        ThumbOut x = new ThumbOut();
        int[] bad = {-1, 256, Integer.MIN_VALUE, Integer.MAX_VALUE};
        for (int letter : bad) {
            due("9: feed(" + letter + ")", x.feed(letter), ThumbOut.BAD);
        }
        for (int i = 1; i <= 120; i++) {
            due("9: feed", x.feed(i == 1 ? 0 : i == 2 ? 255 : '1'), i);
        }
        due("9: full", x.feed('1'), ThumbOut.FULL);
        due("9: BAD ahead of FULL", x.feed(256), ThumbOut.BAD);
        due("9: count(3)", x.count(3), 120);
        due("9: byte 0 is a fault", x.law(), -100);
        due("9: empty", x.count(3), 0);
        due("9: a first one again", x.feed(255), 1);
        due("9: byte 255 is a fault", x.law(), -100);
    }

    private static void laws() {
        ThumbOut x = new ThumbOut();
        due("10: empty tape", x.law(), -100);
        for (int i = 0; i < 4; i++) {
            due("10: a fault", Check.law(x, "r+"), -102);
            due("10: law " + i, Check.law(x, "r+" + i), i);
            due("10: the tape is empty", x.count(3), 0);
            due("10: count(2)", x.count(2), i + 1);
        }
        Check.feed(x, "r+");
        due("10: full", x.law(), ThumbOut.FULL);
        due("10: the tape stays", x.count(3), 2);
        due("10: count(2)", x.count(2), 4);
        due("10: goes on", x.feed('r'), 3);
        StringBuilder longest = new StringBuilder("r");
        for (int i = 0; i < 59; i++) {
            longest.append("+r");
        }
        due("10: 119 bytes", Check.law(new ThumbOut(), longest.toString()), 0);
        due("10: 120 bytes", Check.law(new ThumbOut(), "1" + longest.substring(1) + "+"), -220);
        due("10: 120 bytes", Check.law(new ThumbOut(), "12" + longest.substring(1)), 0);
    }

    private static void rule() {
        ThumbOut x = road(5, 0, 20);
        x.force(Check.law(x, "1000"));
        due("11: without", x.goes(0, -1), 20);
        due("11: empty tape", x.rule(), -100);
        due("11: a fault", Check.rule(x, "0;"), -102);
        due("11: the tape is empty", x.count(3), 0);
        due("11: a fault is no rule", x.goes(0, -1), 20);
        due("11: rule", Check.rule(x, "0"), 1);
        due("11: the tape is empty", x.count(3), 0);
        due("11: not in", x.goes(0, -1), ThumbOut.NOT);
        due("11: a fault", Check.rule(x, "?"), -100);
        due("11: the rule stays", x.goes(0, -1), ThumbOut.NOT);
        due("11: another rule", Check.rule(x, "0-7"), 1);
        due("11: not 0", x.goes(0, -1), 20);
        due("11: no law", x.count(2), 1);
    }

    private static void force() {
        ThumbOut x = road(5, 0, 20);
        due("12: no laws", x.force(0), ThumbOut.VOID);
        Check.law(x, "1000");
        Check.law(x, "0");
        due("12: force(0)", x.force(0), -1);
        due("12: all stop", x.waits(0, 0), 0);
        due("12: force(1)", x.force(1), 0);
        due("12: none stops", x.waits(0, 0), ThumbOut.NOT);
        int[] bad = {-2, 2, 4, Integer.MIN_VALUE, Integer.MAX_VALUE};
        for (int law : bad) {
            due("12: force(" + law + ")", x.force(law), ThumbOut.VOID);
        }
        due("12: VOID changes nothing", x.force(-1), 1);
        due("12: none", x.force(-1), -1);
    }

    private static void fault(String text, int place) {
        int law = Check.law(new ThumbOut(), text);
        due("10: law() of " + text, law, place < 0 ? 0 : -100 - place);
        due("11: rule() of " + text, Check.rule(new ThumbOut(), text), place < 0 ? 1 : -100 - place);
    }

    private static void faults() {
        String[] good = {"1", "0000", "9999", "r", "u", "h", "t", "w", "s", "d", "a", "b", "m", "!r", "-r", "--r",
            "!-!r", "(r)", "r|u|h", "r&u&h", "r<u", "r=u", "r>u", "r+u-h", "r*u/h%t", "1?2", "1?2;3", "1;2;3",
            "1?2;3?4", "(r<u)<h", "r<u&h<t", "((((((r))))))", "!!!!!!r", "------r", "!(-(!(1)))",
            "((((((r))))))+((((((r))))))", "!!!!!!r+!!!!!!r", "1-------2", "(1|2)&3", "r+1-2*3/4%5<6&7|8?9;0"};
        for (String text : good) {
            fault(text, -1);
        }
        String[] bad = {"", ";1", "1;", "1?", "1?2;", "?1", "1?2?3", "12345", "r u", " r", "r ", "rr", "r1", "1r",
            "r<u<h", "r=u=h", "r<u=h", "r<=u", "r+", "r+*u", "+r", "*r", "|r", "r||u", "r&&u", "(", "(r", "(r;",
            "(r?1)", "()", ")", "r)", "(r))", "!", "r!", "r!=u", "q", "R", "c", "(((((((r)))))))", "!!!!!!!r",
            "-------r", "1--------2", "((((((!r))))))", "(1)(2)", "1(2)", "(r<u<h)", "1;;2", "1\n", "\u00ff", "r&",
            "r+u;q", "1?2;3?", "((((((r)))))", "!)", "-;", "1/;"};
        int[] places = {0, 0, 2, 2, 4, 0, 3, 4, 1, 0, 1, 1, 1, 1,
            3, 3, 3, 2, 2, 2, 0, 0, 0, 2, 2, 1, 2, 2,
            2, 1, 0, 1, 3, 1, 1, 1, 0, 0, 0, 6, 6, 6,
            8, 6, 3, 1, 4, 2, 1, 0, 2, 4, 6, 12, 1, 1,
            2};
        due("the list of faults", places.length, bad.length);
        for (int i = 0; i < bad.length && i < places.length; i++) {
            fault(bad[i], places[i]);
        }
    }

    /** A place of some room with pumps, a road of some danger to a goal. */
    private static ThumbOut road(int room, int danger, int minutes) {
        ThumbOut x = new ThumbOut();
        x.place(10 * room + 1);
        x.place(0);
        x.road(1, 60, 100 * minutes + danger);
        x.set(0, 1);
        return x;
    }

    /** Whether a text gives a value as a law: only then all cars stop. */
    private static void worth(String text, int value) {
        ThumbOut x = road(5, 42, 20);
        String equal = value < 0 ? "(" + text + "+" + -value + "=0)*1000" : "(" + text + "=" + value + ")*1000";
        due("10: law() of " + equal, x.force(Check.law(x, equal)), -1);
        due("10: " + text + " gives " + value, x.car(0, 7, 2), 1);
        x.force(-1);
        due("10: rule() of " + equal, Check.rule(x, equal), 1);
        due("11: " + text + " gives " + value, x.goes(0, -1) > 0 ? 1 : 0, 1);
    }

    private static void worths() {
        worth("0", 0);
        worth("0012", 12);
        worth("7+3-2", 8);
        worth("7-3-2", 2);
        worth("2+3*4", 14);
        worth("(2+3)*4", 20);
        worth("7/2", 3);
        worth("-7/2", -3);
        worth("-7%3", -1);
        worth("7%-3", 1);
        worth("7/0", 0);
        worth("7%0", 0);
        worth("0/0", 0);
        worth("24/4/3", 2);
        worth("24/4*3", 18);
        worth("29%10*3", 27);
        worth("-3+5", 2);
        worth("--3", 3);
        worth("5--3", 8);
        worth("-!0", -1);
        worth("!5", 0);
        worth("!0", 1);
        worth("!-1", 0);
        worth("!!7", 1);
        worth("!0+1", 2);
        worth("!0*5", 5);
        worth("(3|0)", 1);
        worth("(0|0)", 0);
        worth("(2&4)", 1);
        worth("(2&0)", 0);
        worth("(1|0&0)", 1);
        worth("(0&0|1)", 1);
        worth("(1<2)", 1);
        worth("(2<2)", 0);
        worth("(2=2)", 1);
        worth("(2=3)", 0);
        worth("(3>2)", 1);
        worth("(2>2)", 0);
        worth("(1+1<3)", 1);
        worth("(1<2&3<2)", 0);
        worth("(-1<0)", 1);
        worth("(9999*9999*9/1000/1000)", 899);
        worth("(9999*9999*22<0)", 1);
        worth("(9999*9999*43>0)", 1);
        worth("(2048*1024*1024<0)", 1);
        worth("(2048*1024*1024/-1<0)", 1);
        worth("(2048*1024*1024%-1)", 0);
        worth("(2048*1024*1024-1>0)", 1);
        worth("(-(2048*1024*1024)<0)", 1);
        lines("5", 5);
        lines("5;6", 5);
        lines("0;6", 0);
        lines("0?5;6", 6);
        lines("1?5;6", 5);
        lines("0-1?5;6", 5);
        lines("0?5", 0);
        lines("0?5;0?6", 0);
        lines("0?5;0?6;1?7;8", 7);
        lines("1?0;6", 0);
        StringBuilder ones = new StringBuilder("10");
        for (int i = 0; i < 59; i++) {
            ones.append("+1");
        }
        lines(ones.toString(), 69);
        lines("1000*(0|1&1<1+1*(0|1&1<1+1*(0|1&1<1+1*(0|1&1<1+1*(0|1&1<1+1*(0|1&1<1+1*1))))))", 1000);
        lines("1000*(0|1&1<1+1*(0|1&1<1+1*(0|1&1<1+1*(0|1&1<1+1*(0|1&1<1+1*(0|1&1<1-1*1))))))", 0);
    }

    /** Lines can't stand in brackets: the value is told by which draws are below it. */
    private static void lines(String text, int value) {
        ThumbOut x = road(5, 42, 20);
        x.force(Check.law(x, text));
        for (int j = 0; j < 1440; j++) {
            int draw = ((j + 1) * 1103515245 + 12345 >>> 8) % 1000;
            if (j % 60 == 0 || Math.abs(draw - value) < 9) {
                due("10: " + text + " with draw " + draw, x.car(0, j, 2), draw < value ? 1 : 0);
            }
        }
        Check.rule(x, text);
        x.force(-1);
        due("11: " + text, x.goes(0, -1) > 0 ? 1 : 0, value != 0 ? 1 : 0);
    }

    private static void lawGives(String call, ThumbOut x, String text, int car) {
        int law = Check.law(x, "(" + text + ")*1000");
        x.force(law);
        due(call + " " + text, x.car(0, car, 2), 1);
    }

    private static void names() {
        lawGives("10: r", road(7, 42, 20), "r=7", 0);
        lawGives("10: u", road(7, 42, 20), "u=1", 0);
        lawGives("10: h", road(7, 42, 20), "h=0", 59);
        lawGives("10: h", road(7, 42, 20), "h=1", 60);
        lawGives("10: h", road(7, 42, 20), "h=23", 1439);
        lawGives("10: t", road(7, 42, 20), "t=1", 0);
        ThumbOut x = road(7, 42, 20);
        x.set(2, 2);
        x.set(3, 1);
        x.set(4, 1);
        lawGives("10: t", x, "t=2", 0);
        lawGives("10: w", x, "w=1", 0);
        lawGives("10: s", x, "s=1", 0);
        x.set(4, 0);
        lawGives("10: s", x, "s=0", 0);
        x = road(7, 42, 20);
        lawGives("10: d", x, "d=42", 0);
        lawGives("10: w", x, "w=0", 0);
        lawGives("10: s", x, "s=0", 0);
        lawGives("10: a, b, m", x, "a=0&b=0&m=0", 0);
        x.mend(0, 2, 17);
        x.mend(0, 0, 3);
        ThumbOut y = road(3, 17, 20);
        y.set(0, 5);
        lawGives("10: a, b are 0", y, "a=0&b=0&m=0&r=3&d=17", 700);
    }

    /** A rule that asks what is so lets one in at once. */
    private static void ruleGives(String call, ThumbOut x, String text, int minute, int due) {
        x.force(Check.law(x, "1000"));
        Check.rule(x, text);
        due(call + " " + text, x.goes(minute, -1), due);
    }

    private static void ruleNames() {
        ruleGives("11: r, u", road(7, 42, 20), "r=7&u=1", 0, 20);
        ruleGives("11: h", road(7, 42, 20), "h=2", 30, 140);
        ruleGives("11: d", road(7, 42, 20), "d=42", 5, 25);
        ruleGives("11: t, w, s", road(7, 42, 20), "t=1&w=0&s=0", 5, 25);
        ruleGives("11: a", road(7, 42, 20), "a=0", 5, 25);
        ruleGives("11: b", road(7, 42, 20), "b=20", 5, 25);
        ruleGives("11: m", road(7, 42, 20), "m=0", 5, 25);
        ruleGives("11: m", road(7, 42, 20), "m=30", 5, 55);
        ruleGives("11: m", road(7, 42, 20), "m>30|h>1", 100, 140);
        ThumbOut x = road(7, 42, 20);
        x.set(2, 2);
        x.set(3, 1);
        x.set(4, 1);
        ruleGives("11: t, w, s", x, "t=2&w=1&s=1", 5, 25);
        x = road(7, 42, 20);
        x.set(0, 7);
        x.force(Check.law(x, "1000"));
        Check.rule(x, "a=9999&b=9999");
        due("11: no goal is far", x.goes(0, 0), 0);
        due("11: no goal is never", x.goes(0, -1), ThumbOut.NOT);
    }
}
