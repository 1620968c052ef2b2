/** Promises 23 to 26: type, clearText, syntaxError, carryOut. */
public final class TextTest {
    private static final Due DUE = new Due("TextTest");

    public static void main(String[] args) {
        promise23Type();
        promise24ClearText();
        promise25Plans();
        promise25Errors();
        promise25Prefixes();
        promise25LongTexts();
        promise26CarryOut();
        promise26UpToTheFirstError();
        promise26EachCommandCanFail();
        promise26NoPlan();
        promise26OneStateIsSaved();
        promise26LongPlan();
        DUE.end();
    }

    private static void promise23Type() {
        QuietChecks x = new QuietChecks();
        DUE.same("type(31)", x.type(31), QuietChecks.BAD_VALUE);
        DUE.same("type(127)", x.type(127), QuietChecks.BAD_VALUE);
        DUE.same("type(-1)", x.type(-1), QuietChecks.BAD_VALUE);
        DUE.same("type of a number beyond 65536", x.type(65536 + 'a'), QuietChecks.BAD_VALUE);
        DUE.same("type(32)", x.type(32), 1);
        DUE.same("type(126)", x.type(126), 2);
        for (int length = 3; length <= 80; length++) {
            DUE.same("type(97)", x.type(97), length);
        }
        DUE.same("an 81st character", x.type(97), QuietChecks.LIMIT);
        DUE.same("type(0): BAD_VALUE is named first", x.type(0), QuietChecks.BAD_VALUE);
        DUE.same("clearText()", x.clearText(), 80);
        DUE.same("no state is saved", x.undo(), QuietChecks.NOT_POSSIBLE);
    }

    private static void promise24ClearText() {
        QuietChecks x = new QuietChecks();
        DUE.same("of none", x.clearText(), 0);
        Due.text(x, "quiet 5");
        DUE.same("of seven", x.clearText(), 7);
        DUE.same("it is empty", x.clearText(), 0);
        DUE.same("syntaxError() of the empty text", x.syntaxError(), 0);
        DUE.same("type", x.type('a'), 1);
        DUE.same("no state is saved", x.undo(), QuietChecks.NOT_POSSIBLE);
    }

    private static int errorOf(String text) {
        QuietChecks x = new QuietChecks();
        Due.text(x, text);
        return x.syntaxError();
    }

    private static void promise25Plans() {
        String[] plans = {
            "read 0:1", "read 7:200", "read 3:000", "read 3:999", "quiet 1", "quiet 01", "quiet 999", "quiet 000",
            "ask 0", "ask 7", "spot 0:1", "spot 7:9", "way oldest", "way worst", "way row",
            "ask 1;ask 2", "way row;read 1:12;spot 3:4;quiet 7;ask 0;way oldest;way worst",
            "quiet 1;quiet 12;quiet 123;quiet 0", "ask 1;ask 1;ask 1;ask 1;ask 1;ask 1;ask 1;ask 1;ask 1;ask 1;ask 1;way oldest",
        };
        for (String plan : plans) {
            DUE.same("syntaxError() of \"" + plan + "\"", errorOf(plan), QuietChecks.NONE);
        }
    }

    private static void promise25Errors() {
        // each text with a bar before its first error; at the end: no character is wrong, but it is no plan
        String[] texts = {
            "|", "| ", "|x", "|;", "|1", "|Read 1:1", "r|", "re|d 1:1", "read|", "read |",
            "read |8:1", "read |:1", "read | 1:1", "read 1|", "read 1|;", "read 1|1", "read 1| :1", "read 1:|",
            "read 1:|;", "read 1:|x", "read 1:|-1", "read 1:200|0", "read 1:1| ", "read 1:20|:", "quiet |",
            "quiet |;", "quiet |a", "quiet | 1", "quiet 123|4", "quiet 000|0", "quiet 1|:1", "quie|",
            "quiet|5", "q|ask 1", "ask |", "ask |8", "ask |9", "ask |-", "ask 1|2", "ask 1|:1", "ask 1| ", "ask 1;|",
            "ask 1;|;", "ask 1;| ask 2", "ask 1|,ask 2", "ask 1;as|", "ask 1;as|x", "a|way row", "spot |8:1",
            "spot 1|1", "spot 1:|", "spot 1:|0", "spot 1:|;", "spot 1:5|5", "spot 1:9| ", "spo|", "sp|ask 1",
            "way |", "way |x", "way |0", "way | row", "way o|", "way old|", "way oldest|s", "way oldes|;",
            "way w|row", "way worst|e", "way r|", "way ro|", "way row|s", "way row| ", "way row;|", "way wo|;", "w|orst",
            "ask 1;quiet 5;read 1:|", "ask 1;quiet 5;read |9", "way row;way row;way row;w|x",
        };
        for (String marked : texts) {
            int bar = marked.indexOf('|');
            String text = marked.substring(0, bar) + marked.substring(bar + 1);
            DUE.same("syntaxError() of \"" + text + "\"", errorOf(text), bar);
        }
    }

    private static void promise25Prefixes() {
        String plan = "read 5:123;quiet 45;ask 3;spot 2:9;way oldest;way worst;way row";
        QuietChecks x = new QuietChecks();
        for (int length = 0; length < plan.length(); length++) {
            String text = plan.substring(0, length);
            boolean ends = text.matches(".*([0-9]|oldest|worst|row)") && !text.matches(".*(read|spot) [0-7]");
            DUE.same("syntaxError() of \"" + text + "\"", x.syntaxError(), ends ? QuietChecks.NONE : length);
            x.type(plan.charAt(length));
            QuietChecks wrong = new QuietChecks();
            Due.text(wrong, text + "~");
            DUE.same("syntaxError() of \"" + text + "~\"", wrong.syntaxError(), length);
        }
        DUE.same("syntaxError() of all", x.syntaxError(), QuietChecks.NONE);
    }

    private static void promise25LongTexts() {
        String long79 = "quiet 100;quiet 100;quiet 100;quiet 100;quiet 100;quiet 100;quiet 100;quiet 100";
        DUE.same("79 characters", long79.length(), 79);
        DUE.same("a plan of 79 characters", errorOf(long79), QuietChecks.NONE);
        DUE.same("plans may be of any length", errorOf(long79 + ";"), 80);
        DUE.same("but not begin so", errorOf(long79 + "0"), 79);
        String short13 = "ask 0;ask 0;ask 0;ask 0;ask 0;ask 0;ask 0;ask 0;ask 0;ask 0;ask 0;ask 0;ask 0";
        DUE.same("thirteen commands", errorOf(short13), QuietChecks.NONE);
        DUE.same("and the beginning of one more", errorOf(short13 + ";as"), 80);
        DUE.same("and a wrong one", errorOf(short13 + ";ax"), 79);
    }

    private static QuietChecks with(String text) {
        QuietChecks x = new QuietChecks();
        Due.text(x, text);
        return x;
    }

    private static void promise26CarryOut() {
        QuietChecks x = with("way worst;spot 3:8;read 3:015;ask 6;quiet 007");
        QuietChecks y = new QuietChecks();
        y.setWay(1);
        y.spot(3, 8);
        y.read(3, 15);
        y.ask(6);
        y.quiet(7);
        DUE.same("carryOut()", x.carryOut(), 5);
        DUE.same("as by the methods", x.digest(), y.digest());
        DUE.same("way", x.count(4), 1);
        DUE.same("tick", x.count(0), 22);
        DUE.same("slow reads", x.count(12), 1);
        DUE.same("list", x.span(6, 6), 0);
        DUE.spots("spot", x, 3, 8);
        DUE.same("the text is empty", x.clearText(), 0);
        String[] ways = {"oldest", "worst", "row"};
        for (int way = 0; way < 3; way++) {
            QuietChecks z = with("way " + ways[way]);
            z.setWay(2 - way);
            DUE.same("way " + ways[way], z.carryOut(), 1);
            DUE.same("is set", z.count(4), way);
        }
    }

    private static void promise26UpToTheFirstError() {
        QuietChecks x = with("ask 1;ask 2;ask 1;ask 3;way row");
        DUE.same("carryOut()", x.carryOut(), 2);
        DUE.same("list", x.count(8), 2);
        DUE.same("way", x.count(4), 0);
        DUE.same("the text is empty", x.clearText(), 0);
        DUE.same("undo()", x.undo(), 0);
        DUE.same("list undone", x.count(8), 0);
    }

    private static void promise26EachCommandCanFail() {
        String[] fails = {"quiet 0", "quiet 501", "read 1:0", "read 1:201", "ask 5"};
        for (String fail : fails) {
            QuietChecks x = with("ask 5;" + fail + ";way row");
            DUE.same("carryOut() with " + fail, x.carryOut(), 1);
            DUE.same("way", x.count(4), 0);
            DUE.same("tick", x.count(0), 0);
        }
        QuietChecks full = new QuietChecks();
        for (int i = 0; i < 19; i++) {
            full.spot(1, 1);
        }
        Due.text(full, "spot 1:2;spot 1:3;ask 0");
        DUE.same("carryOut() with the spots full", full.carryOut(), 1);
        DUE.same("list", full.count(8), 0);
        QuietChecks late = Disks.late(99900);
        Due.text(late, "quiet 100;ask 1");
        DUE.same("carryOut() beyond the last tick", late.carryOut(), 0);
        Due.text(late, "quiet 99;quiet 1");
        DUE.same("carryOut() up to the last tick", late.carryOut(), 1);
        DUE.same("tick", late.count(0), 99999);
    }

    private static void promise26NoPlan() {
        String[] texts = {"", "ask 1;", "ask 8", "ask 1;quiet 1234", "quiet", "ask 1;;ask 2"};
        for (String text : texts) {
            QuietChecks x = with(text);
            long before = x.digest();
            DUE.same("carryOut() of \"" + text + "\"", x.carryOut(), QuietChecks.BAD_TEXT);
            DUE.same("nothing has changed", x.digest(), before);
            DUE.same("nothing is saved", x.undo(), QuietChecks.NOT_POSSIBLE);
            DUE.same("the text stays", x.clearText(), text.length());
        }
    }

    private static void promise26OneStateIsSaved() {
        QuietChecks x = with("quiet 3;quiet 4;ask 1;spot 0:1");
        DUE.same("carryOut()", x.carryOut(), 4);
        DUE.same("undo()", x.undo(), 0);
        DUE.same("all is undone", x.digest(), new QuietChecks().digest());
        DUE.same("the text stays empty", x.clearText(), 0);
        QuietChecks y = with("quiet 000");
        DUE.same("carryOut() of none", y.carryOut(), 0);
        DUE.same("one state is saved all the same", y.undo(), 0);
        DUE.same("no other", y.undo(), QuietChecks.NOT_POSSIBLE);
    }

    private static void promise26LongPlan() {
        QuietChecks x = with("ask 0;ask 1;ask 2;ask 3;ask 4;ask 5;quiet 6;ask 6;quiet 9;spot 7:9;read 7:1");
        DUE.same("carryOut()", x.carryOut(), 11);
        DUE.same("tick", x.count(0), 16);
        DUE.same("list: 1 to 6", x.count(8), 6);
        DUE.same("7 is not asked for", x.span(7, 6), QuietChecks.NONE);
        DUE.same("0 has ended", x.span(0, 0), 15);
        QuietChecks y = with("ask 0;ask 1;ask 2;ask 3;ask 4;ask 5;way row;way row;way row;way row;way row");
        DUE.same("carryOut()", y.carryOut(), 11);
        QuietChecks z = with("spot 0:1;way row;way row;way row;ask 0;ask 1;ask 2;ask 3;ask 4;ask 5;ask 6");
        DUE.same("carryOut() until the list is full", z.carryOut(), 10);
        QuietChecks u = with("way row;way row;way row;way row;way row;way row;way row;way row;way row;way row");
        DUE.same("carryOut()", u.carryOut(), 10);
        DUE.same("one state is saved", u.undo(), 0);
    }
}
