import java.io.IOException;
import java.util.function.Supplier;

/** The edges of "Terms" on the text, and of promises 23 to 26: type, clearText, syntaxError, carryOut. */
public final class EdgesOfPlansTest {
    private static final Due DUE = new Due("EdgesOfPlansTest");

    public static void main(String[] args) throws IOException, ReflectiveOperationException {
        Edges.run(EdgesOfPlansTest.class, DUE);
    }

    private static void plan(String text) {
        DUE.same("syntaxError() of \"" + text + "\"", Disks.with(text).syntaxError(), QuietChecks.NONE);
    }

    /** The text has a bar before the first character that is wrong, or at its end if it only is not a plan yet. */
    private static void error(String marked) {
        int bar = marked.indexOf('|');
        String text = marked.substring(0, bar) + marked.substring(bar + 1);
        DUE.same("syntaxError() of \"" + text + "\"", Disks.with(text).syntaxError(), bar);
    }

    @Says(words = "There is a text of at most 80 characters")
    static void eightyCharacters() {
        QuietChecks x = new QuietChecks();
        for (int length = 1; length <= 80; length++) {
            DUE.same("type(32)", x.type(32), length);
        }
        DUE.same("no more", x.type(32), QuietChecks.LIMIT);
        DUE.same("clearText()", x.clearText(), 80);
        DUE.same("room again", x.type(32), 1);
    }

    @Says(words = "which is empty initially.")
    static void emptyInitially() {
        DUE.same("clearText()", new QuietChecks().clearText(), 0);
        DUE.same("syntaxError()", new QuietChecks().syntaxError(), 0);
        DUE.same("carryOut()", new QuietChecks().carryOut(), QuietChecks.BAD_TEXT);
        DUE.same("type(32)", new QuietChecks().type(32), 1);
    }

    @Says(words = "A plan is a text of the form command { \";\" command }")
    static void commands() {
        plan("ask 0");
        plan("ask 0;ask 0");
        plan("ask 0;quiet 1;read 0:1;spot 0:1;way row");
        plan("ask 0;".repeat(12) + "ask 0");
        plan(Disks.LONGEST_PLAN);
        error("|");
        error("|;");
        error("ask 0;|");
        error("ask 0;|;");
        error("ask 0;|;ask 0");
        error("|;ask 0");
        error("ask 0| ;ask 0");
        error("ask 0;| ask 0");
        error("ask 0|ask 0");
        error("ask 0|,ask 0");
        error("| ask 0");
        error("ask 0| ");
    }

    @Says(words = "\"read \" span \":\" number (the host reads for so many ticks)")
    static void readCommand() {
        plan("read 0:1");
        plan("read 7:999");
        error("r|");
        error("rea|");
        error("read|");
        error("read|0:1");
        error("read | 0:1");
        error("read |:1");
        error("read 0|");
        error("read 0| :1");
        error("read 0|;1");
        error("read 0|0:1");
        error("read 0:|");
        error("read 0:| 1");
        error("read 0:|:1");
        error("|Read 0:1");
        error("rea|D 0:1");
        QuietChecks x = Disks.with("read 3:17");
        DUE.same("carryOut()", x.carryOut(), 1);
        DUE.same("the host has read", x.count(0), 17);
    }

    @Says(words = "\"quiet \" number (so many quiet ticks)")
    static void quietCommand() {
        plan("quiet 1");
        plan("quiet 999");
        error("q|");
        error("quie|");
        error("quiet|");
        error("quiet|1");
        error("quiet |");
        error("quiet | 1");
        error("quiet 1|:1");
        error("qu|eit 1");
        QuietChecks x = Disks.with("quiet 3");
        DUE.same("carryOut()", x.carryOut(), 1);
        DUE.same("quiet ticks have passed", x.count(1), 3);
    }

    @Says(words = "\"ask \" span")
    static void askCommand() {
        plan("ask 3");
        error("a|");
        error("as|");
        error("ask|");
        error("ask|3");
        error("ask |");
        error("ask | 3");
        error("ask 3|3");
        error("ask 3|:1");
        QuietChecks x = Disks.with("ask 3");
        DUE.same("carryOut()", x.carryOut(), 1);
        DUE.same("it is asked for", x.span(3, 6), 0);
    }

    @Says(words = "\"spot \" span \":\" digit (a spot with so many tries)")
    static void spotCommand() {
        plan("spot 3:4");
        error("s|");
        error("spo|");
        error("spot|");
        error("spot|3:4");
        error("spot |");
        error("spot |:4");
        error("spot 3|");
        error("spot 3| 4");
        error("spot 3:|");
        error("spot 3:| 4");
        error("spot 3:4|4");
        QuietChecks x = Disks.with("spot 3:4");
        DUE.same("carryOut()", x.carryOut(), 1);
        DUE.spots("it is there", x, 3, 4);
    }

    @Says(words = "\"way \" and the name of a way.")
    static void wayCommand() {
        String[] names = {"oldest", "worst", "row"};
        for (int way = 0; way < 3; way++) {
            plan("way " + names[way]);
            for (int length = 1; length < names[way].length(); length++) {
                error("way " + names[way].substring(0, length) + "|");
                error("way " + names[way].substring(0, length) + "|;ask 1");
            }
            error("way " + names[way] + "|s");
            error("way " + names[way] + "| ");
            QuietChecks x = Disks.with("way " + names[way]);
            x.setWay((way + 1) % 3);
            DUE.same("carryOut()", x.carryOut(), 1);
            DUE.same("it is set", x.count(4), way);
        }
        error("w|");
        error("wa|");
        error("way|");
        error("way|row");
        error("way |");
        error("way | row");
        error("way |0");
        error("way |Row");
        error("way ro|rst");
        error("way wo|w");
    }

    @Says(words = "A span is a digit from 0 to 7")
    static void spanInAPlan() {
        for (String command : new String[] {"ask %", "read %:1", "spot %:1"}) {
            for (char span = '0'; span <= '7'; span++) {
                plan(command.replace('%', span));
            }
            for (char other : new char[] {'/', '8', '9', ':', '-', ' ', 'a'}) {
                error(command.replace("%", "|" + other));
            }
        }
        error("ask 0|1");
        error("ask 1|0");
    }

    @Says(words = "a number has 1 to 3 digits")
    static void numberInAPlan() {
        for (String command : new String[] {"quiet ", "read 5:"}) {
            error(command + "|");
            for (String number : new String[] {"0", "1", "9", "10", "99", "100", "999"}) {
                plan(command + number);
                plan(command + number + ";ask 1");
            }
            error(command + "999|9");
            error(command + "100|0");
            for (char other : new char[] {'/', ':', ';', '-', '+', ' ', '.', 'a'}) {
                error(command + "|" + other);
            }
            for (char other : new char[] {'/', ':', '-', ' ', '.', 'a'}) {
                error(command + "1|" + other);
                error(command + "12|" + other);
                error(command + "123|" + other);
            }
        }
    }

    @Says(words = "(leading zeros are allowed)")
    static void leadingZeros() {
        for (String number : new String[] {"00", "01", "000", "001", "010"}) {
            plan("quiet " + number);
            plan("read 5:" + number);
        }
        error("quiet 000|1");
        error("read 5:001|0");
        QuietChecks x = Disks.with("quiet 007;read 0:08;quiet 010");
        DUE.same("carryOut()", x.carryOut(), 3);
        DUE.same("they are tens and ones", x.count(0), 25);
    }

    @Says(words = "a digit is 1 to 9.")
    static void digitInAPlan() {
        for (char digit = '1'; digit <= '9'; digit++) {
            plan("spot 0:" + digit);
            QuietChecks x = Disks.with("spot 0:" + digit);
            x.carryOut();
            DUE.same("tries(0, 0)", x.tries(0, 0), digit - '0');
        }
        error("spot 0:|0");
        error("spot 0:|:");
        error("spot 0:|/");
        error("spot 0:1|0");
        error("spot 0:|-1");
    }

    @Says(promise = 23, words = "Appends a character to the text.")
    static void typeAppends() {
        QuietChecks x = Disks.with("ask");
        DUE.same("syntaxError()", x.syntaxError(), 3);
        x.type(' ');
        DUE.same("syntaxError()", x.syntaxError(), 4);
        x.type('1');
        DUE.same("syntaxError()", x.syntaxError(), QuietChecks.NONE);
        x.type('1');
        DUE.same("syntaxError()", x.syntaxError(), 5);
    }

    @Says(promise = 23, words = "`code`: character code, 32 to 126")
    static void typeCode() {
        QuietChecks x = new QuietChecks();
        DUE.same("one below", x.type(31), QuietChecks.BAD_VALUE);
        DUE.same("the lowest", x.type(32), 1);
        DUE.same("the highest", x.type(126), 2);
        DUE.same("one above", x.type(127), QuietChecks.BAD_VALUE);
        QuietChecks y = new QuietChecks();
        for (int code = 32; code <= 111; code++) {
            DUE.same("type(" + code + ")", y.type(code), code - 31);
        }
        y.clearText();
        for (int code = 112; code <= 126; code++) {
            DUE.same("type(" + code + ")", y.type(code), code - 111);
        }
    }

    @Says(promise = 23, words = "Returns the new length of the text;")
    static void typeAnswers() {
        QuietChecks x = new QuietChecks();
        DUE.same("the first", x.type('a'), 1);
        DUE.same("the second", x.type('a'), 2);
        Due.text(x, "a".repeat(77));
        DUE.same("the last", x.type('a'), 80);
        x.clearText();
        DUE.same("the first again", x.type('a'), 1);
        QuietChecks y = Disks.with("ask 1");
        y.carryOut();
        DUE.same("the first again", y.type('a'), 1);
    }

    @Says(promise = 23, words = "BAD_VALUE if code is out of range;")
    static void typeBadValue() {
        for (int code : new int[] {-1, 0, 31, 127, 128, 65536 + 'a', Integer.MIN_VALUE, Integer.MAX_VALUE}) {
            Refusals.everywhere(DUE, "type(" + code + ")", QuietChecks.BAD_VALUE, x -> x.type(code));
        }
    }

    @Says(promise = 23, words = "LIMIT if the text has 80 characters.")
    static void typeLimit() {
        DUE.same("the 80th", Disks.with("a".repeat(79)).type('a'), 80);
        Supplier<QuietChecks> eighty = () -> Disks.with("a".repeat(80));
        Refusals.refused(DUE, "the 81st", QuietChecks.LIMIT, eighty, x -> x.type('a'));
        Refusals.refused(DUE, "with all else full", QuietChecks.LIMIT, Disks::full, x -> x.type(';'));
        Refusals.refused(DUE, "BAD_VALUE is named first", QuietChecks.BAD_VALUE, eighty, x -> x.type(31));
    }

    @Says(promise = 24, words = "Makes the text empty.")
    static void clearText() {
        QuietChecks x = Disks.with("ask 1");
        x.clearText();
        DUE.same("syntaxError()", x.syntaxError(), 0);
        DUE.same("carryOut()", x.carryOut(), QuietChecks.BAD_TEXT);
        Due.text(x, "ask 2");
        DUE.same("what was there is gone", x.carryOut(), 1);
        DUE.same("span(1, 6)", x.span(1, 6), QuietChecks.NONE);
        DUE.same("span(2, 6)", x.span(2, 6), 0);
        QuietChecks y = Disks.full();
        long before = y.digest();
        y.clearText();
        DUE.same("no state is saved", y.undo(), 5);
        y.read(4, 1);
        DUE.same("all else is as before", y.digest(), before);
    }

    @Says(promise = 24, words = "Returns the previous length of the text.")
    static void clearTextAnswers() {
        for (int length : new int[] {0, 1, 2, 79, 80}) {
            QuietChecks x = Disks.with("z".repeat(length));
            DUE.same("of " + length, x.clearText(), length);
            DUE.same("then of none", x.clearText(), 0);
        }
        QuietChecks y = Disks.full();
        y.type('a');
        DUE.same("of 80, one was refused", y.clearText(), 80);
    }

    @Says(promise = 25, words = "Finds the first syntax error of the text.")
    static void syntaxErrorIsTheFirst() {
        error("ask |x;ask y");
        error("ask 1;as|c 2;ask 9");
        error("|;;");
        QuietChecks x = Disks.full();
        long before = x.digest();
        DUE.same("syntaxError()", x.syntaxError(), QuietChecks.NONE);
        DUE.same("it changes nothing", x.digest(), before);
        DUE.same("nor the text", x.clearText(), 80);
        DUE.same("no state is saved", x.undo(), 5);
    }

    @Says(promise = 25, words = "Returns the index of the first character for which no plan, of any length, begins with the characters of the text up to and including this one;")
    static void syntaxErrorIndex() {
        error("|x");
        error("r|x");
        error("r|o");
        error("a|");
        error("a|d");
        error("s|r");
        error("read 1:1|x");
        error("|ask".replace("ask", "~".repeat(80)));
        error("quiet 100;".repeat(7) + "way oldes|x");
        error("quiet 100;".repeat(7) + "way row;a|t");
        error("quiet 100;".repeat(7) + "quiet 123|4");
    }

    @Says(promise = 25, words = "for which no plan, of any length, begins")
    static void syntaxErrorPlansOfAnyLength() {
        error("quiet 100;".repeat(8) + "|");
        error("quiet 100;".repeat(7) + "quiet 1;as|");
        error("quiet 100;".repeat(7) + "way row;re|");
        error("quiet 100;".repeat(7) + "ask 1;spot|");
        DUE.same("a text of 80 characters", ("quiet 100;".repeat(7) + "ask 1;spot").length(), 80);
    }

    @Says(promise = 25, words = "the length of the text if there is no such character but the text is not a plan (this holds for the empty text);")
    static void syntaxErrorLength() {
        error("|");
        error("a|");
        error("ask |");
        error("ask 1;|");
        error("ask 1;read 1:|");
        QuietChecks x = Disks.with("ask 1");
        x.carryOut();
        DUE.same("the text has become empty", x.syntaxError(), 0);
    }

    @Says(promise = 25, words = "NONE if the text is a plan.")
    static void syntaxErrorNone() {
        plan("ask 1");
        plan("quiet 0");
        plan("quiet 501");
        plan("read 1:000");
        plan("read 1:999");
        plan("ask 1;ask 1");
        plan(Disks.LONGEST_PLAN);
    }

    @Says(promise = 26, words = "Carries out the commands of the text from left to right")
    static void carryOutLeftToRight() {
        QuietChecks x = Disks.with("ask 5;ask 2;read 0:9;quiet 6;spot 5:1;way row;way worst");
        DUE.same("carryOut()", x.carryOut(), 7);
        DUE.same("5 has begun", x.count(5), 5);
        DUE.same("before its spot was there", x.count(7), 10);
        DUE.same("2 waits", x.span(2, 6), 0);
        DUE.same("the last way", x.count(4), 1);
        QuietChecks y = new QuietChecks();
        y.ask(5);
        y.ask(2);
        y.read(0, 9);
        y.quiet(6);
        y.spot(5, 1);
        y.setWay(2);
        y.setWay(1);
        DUE.same("as by the methods", x.digest(), y.digest());
    }

    @Says(promise = 26, words = "Carries out the commands of the text")
    static void carryOutOnlyThisText() {
        QuietChecks x = Disks.with("ask 1;ask 2");
        DUE.same("a look at the text", x.syntaxError(), QuietChecks.NONE);
        DUE.same("does not carry it out", x.count(8), 0);
        DUE.same("the first text", x.carryOut(), 2);
        Due.text(x, "read 0:5");
        DUE.same("a look at the text", x.syntaxError(), QuietChecks.NONE);
        DUE.same("a look again", x.syntaxError(), QuietChecks.NONE);
        DUE.same("the second text", x.carryOut(), 1);
        DUE.same("its ticks, once", x.count(0), 5);
        Due.text(x, "read 0:7;ask 9");
        DUE.same("no plan", x.carryOut(), QuietChecks.BAD_TEXT);
        x.clearText();
        Due.text(x, "quiet 1;ask 1;read 0:9");
        DUE.same("the third text", x.carryOut(), 1);
        DUE.same("its tick", x.count(0), 6);
    }

    /** The plan is carried out up to its star, behind which a command must not be carried out. */
    private static void stops(Supplier<QuietChecks> maker, String marked) {
        int star = marked.indexOf('*');
        String text = marked.replace("*", "");
        String before = marked.substring(0, star);
        int commands = before.isEmpty() ? 0 : before.split(";").length;
        QuietChecks x = maker.get();
        Due.text(x, text);
        DUE.same("carryOut() of \"" + text + "\"", x.carryOut(), commands);
        QuietChecks y = maker.get();
        if (commands > 0) {
            Due.text(y, before.substring(0, before.length() - 1));
            DUE.same("carryOut() up to there", y.carryOut(), commands);
        }
        DUE.same("no more than \"" + before + "\"", x.digest(), y.digest());
        DUE.same("the text is empty", x.clearText(), 0);
    }

    @Says(promise = 26, words = "up to the first one whose method (read, quiet, ask, spot or setWay) would return an error code.")
    static void carryOutUpToAnError() {
        stops(QuietChecks::new, "*quiet 0;way row");
        stops(QuietChecks::new, "quiet 1;*quiet 0;way row");
        stops(QuietChecks::new, "quiet 500;*quiet 501;way row");
        stops(QuietChecks::new, "*read 0:0;way row");
        stops(QuietChecks::new, "read 0:200;*read 0:201;way row");
        stops(QuietChecks::new, "ask 1;*ask 1;way row");
        stops(Disks::eager, "ask 1;quiet 1;*ask 1;way row");
        stops(Disks::eager, "ask 1;quiet 10;ask 1;*ask 1;way row");
        stops(QuietChecks::new, "ask 0;ask 1;ask 2;ask 3;ask 4;ask 5;*ask 6;way row");
        stops(() -> {
            QuietChecks x = new QuietChecks();
            for (int i = 0; i < 19; i++) {
                x.spot(i % 8, 1);
            }
            return x;
        }, "spot 0:1;*spot 1:1;way row");
        stops(() -> Disks.late(99995), "quiet 4;*quiet 1;way row");
        stops(() -> Disks.late(99995), "read 0:4;*read 0:1;way row");
        stops(() -> Disks.late(99995), "*quiet 5;way row");
        stops(QuietChecks::new, "way row;quiet 1;*quiet 999;way oldest;quiet 1");
    }

    @Says(promise = 26, words = "The text becomes empty.")
    static void carryOutEmptiesTheText() {
        for (String text : new String[] {"ask 1", "quiet 0", "ask 1;ask 1", Disks.LONGEST_PLAN}) {
            QuietChecks x = Disks.with(text);
            x.carryOut();
            DUE.same("clearText() after \"" + text + "\"", x.clearText(), 0);
            DUE.same("there is nothing more to carry out", x.carryOut(), QuietChecks.BAD_TEXT);
        }
    }

    @Says(promise = 26, words = "One state is saved for the whole call, also if no command is carried out.")
    static void carryOutSavesOneState() {
        for (String text : new String[] {"ask 1", "ask 1;ask 2;ask 3", "ask 1;ask 1", "quiet 0", "read 0:000", Disks.LONGEST_PLAN}) {
            QuietChecks x = Disks.with(text);
            x.carryOut();
            DUE.same("undo() after \"" + text + "\"", x.undo(), 0);
            DUE.same("no other one", x.undo(), QuietChecks.NOT_POSSIBLE);
            QuietChecks y = new QuietChecks();
            for (int i = 0; i < 6; i++) {
                y.quiet(1);
            }
            Due.text(y, text);
            y.carryOut();
            for (int left = 5; left >= 0; left--) {
                DUE.same("undo()", y.undo(), left);
                DUE.same("with the oldest one discarded", y.count(0), left + 1);
            }
        }
    }

    @Says(promise = 26, words = "Undoable.")
    static void carryOutUndoable() {
        EdgesOfUndoTest.undoable(DUE, x -> {
            x.clearText();
            Due.text(x, "ask 0;quiet 3");
            long answer = x.carryOut();
            Due.text(x, "ask 0;quiet 3");
            return answer;
        });
    }

    @Says(promise = 26, words = "Returns the number of commands that are carried out;")
    static void carryOutAnswers() {
        DUE.same("none", Disks.with("quiet 0").carryOut(), 0);
        DUE.same("none of two", Disks.with("quiet 0;quiet 1").carryOut(), 0);
        DUE.same("one", Disks.with("quiet 1").carryOut(), 1);
        DUE.same("one of two", Disks.with("quiet 1;quiet 0").carryOut(), 1);
        DUE.same("two", Disks.with("quiet 1;quiet 2").carryOut(), 2);
        DUE.same("the longest", Disks.with(Disks.LONGEST_PLAN).carryOut(), 8);
        String most = "ask 0;ask 1;ask 2;ask 3;ask 4;ask 5;read 0:1;way row;way row;way row;way row;way row";
        DUE.same("the text is full", Disks.with(most.substring(0, 80).replaceAll(";w[^;]*$", "")).carryOut(), 11);
        String thirteen = "ask 0;ask 1;ask 2;ask 3;ask 4;ask 5;quiet 6;ask 0;ask 6;ask 0;ask 0;ask 0;ask 0";
        DUE.same("not all of thirteen: 0 has begun", Disks.with(thirteen).carryOut(), 7);
    }

    @Says(promise = 26, words = "BAD_TEXT if the text is not a plan (then the text stays).")
    static void carryOutBadText() {
        String[] texts = {"", "a", "ask 8", "ask 1;", "ask 1;ask 8", "ask 1;;", "quiet 1000", "spot 1:0", "way no"};
        for (String text : texts) {
            Refusals.refused(DUE, "carryOut() of \"" + text + "\"", QuietChecks.BAD_TEXT, () -> Disks.with(text),
                    QuietChecks::carryOut);
            Refusals.refused(DUE, "carryOut() of \"" + text + "\" while all is full", QuietChecks.BAD_TEXT, () -> {
                QuietChecks x = Disks.full();
                x.clearText();
                Due.text(x, text);
                return x;
            }, QuietChecks::carryOut);
        }
        QuietChecks x = Disks.with("ask ");
        x.carryOut();
        x.type('4');
        DUE.same("the text can be completed", x.carryOut(), 1);
        DUE.same("span(4, 6)", x.span(4, 6), 0);
    }
}
