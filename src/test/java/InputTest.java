/** Promises 14 to 16: the input buffer. */
public final class InputTest {
    public static void main(String[] args) {
        promise14Append();
        promise15ClearInput();
        promise16WholeTexts();
        promise16Errors();
        promise16Numbers();
        promise16EveryCharacter();
        Check.close();
    }

    private static void promise14Append() {
        TempoPlayer player = new TempoPlayer();
        int[] wrong = {31, 127, 0, -1, 128, Integer.MIN_VALUE, Integer.MAX_VALUE};
        for (int code : wrong) {
            Check.refused("append(" + code + ")", player, Pieces.ARGUMENT, () -> player.append(code));
        }
        Check.same("append(32)", 1, player.append(32));
        Check.same("append(126)", 2, player.append(126));
        Check.same("append", 3, player.append('a'));
        long withA = player.digest();
        player.clearInput();
        Pieces.write(player, " ~b");
        Check.same("the code counts", withA + 1, player.digest());
        for (int length = 4; length <= 60; length++) {
            Check.same("append", length, player.append('1'));
        }
        Check.refused("a 61st character", player, Pieces.STATE, () -> player.append('1'));
        Check.refused("a 61st character, wrong", player, Pieces.ARGUMENT, () -> player.append(31));
        Check.same("clearInput", 60, player.clearInput());
        Check.same("append again", 1, player.append('1'));
    }

    private static void promise15ClearInput() {
        TempoPlayer player = new TempoPlayer();
        Check.same("clearInput of nothing", 0, player.clearInput());
        Pieces.write(player, "3d");
        Check.same("clearInput", 2, player.clearInput());
        Check.same("clearInput again", 0, player.clearInput());
        Pieces.write(player, "5");
        player.addBar(1, 1);
        player.start(0, 0, 100);
        Check.same("append while playing", 2, player.append('p'));
        Check.same("firstError while playing", 2, player.firstError());
        Check.same("clearInput while playing", 2, player.clearInput());
        player.stop();
        Pieces.write(player, "5");
        Check.same("nothing is left of what was cleared", 2, player.load());
        Check.sameText("bar 1", "5 1 0 0 1 1", Pieces.barOf(player, 1));
        Check.same("load clears", 0, player.clearInput());
    }

    private static void promise16WholeTexts() {
        String[] texts = {"", "1", "9", "10", "12", "1d1", "12d8", "1r100", "1r999", "1r1000", "1r60000", "1p1", "1p20000",
            "1d1r100p1", "1d1p1", "1r100p1", "12d8r60000p20000;12d8r60000p20000;12d8r60000p20000", "1;2;3;", "1d", "1r", "1p",
            "1r1", "1r10", "1r6", "1p2", "1d8r9", "1r59999", "1p19999", "1r9999", "1p9999"};
        for (String text : texts) {
            Check.same("firstError of " + text, text.length(), Pieces.errorIn(text));
        }
    }

    /** Before the "!" that marks its end, each text has its first error as its last character. */
    private static void promise16Errors() {
        String[] texts = {"!!", "0!", "13!", "20!", ";!", "d!", "1;;!", "1;0!", "1;13!", "1d0!", "1d9!", "1d11!", "1dd!",
            "1d;!", "1dr!", "1dp!", "1r0!", "1r;!", "1r1;!", "1r99;!", "1r99p!", "1r9p!", "1r60001!", "1r60010!", "1r61000!",
            "1r70000!", "1r600000!", "1r100000!", "1rd!", "1rp!", "1r100d!", "1r100r!", "1p0!", "1p;!", "1p20001!", "1p20010!",
            "1p21000!", "1p30000!", "1p100000!", "1p1d!", "1p1r!", "1p1p!", "1d1d!", "1 !", " !", "1D!", "1R!", "1P!", "1:!",
            "1/!", "1,!", "-!", "+!", "1x!", "1d1 !", "12;12x!", "1e!", "1q!", "1s!", "1d1p5r!", "1r100;1r100d!"};
        for (String text : texts) {
            String wrong = text.substring(0, text.length() - 1);
            Check.same("firstError of " + wrong, wrong.length() - 1, Pieces.errorIn(wrong));
            Check.same("firstError of " + wrong + "1", wrong.length() - 1, Pieces.errorIn(wrong + "1"));
            Check.same("firstError of " + wrong + ";", wrong.length() - 1, Pieces.errorIn(wrong + ";"));
        }
    }

    /** Each number of each kind, as the document ranges it, with the character that ends it. */
    private static void promise16Numbers() {
        allNumbers("", 1, 12, 200);
        allNumbers("1d", 1, 8, 200);
        allNumbers("1r", 100, 60000, 1200);
        allNumbers("1p", 1, 20000, 1200);
        int[] edges = {59999, 60000, 60001, 60010, 61000, 19999, 20000, 20001, 20010, 21000, 99999, 100000, 200000};
        for (int number : edges) {
            oneNumber("1r", 100, 60000, number);
            oneNumber("1p", 1, 20000, number);
        }
    }

    private static void allNumbers(String before, int least, int most, int upTo) {
        for (int number = 0; number <= upTo; number++) {
            oneNumber(before, least, most, number);
        }
    }

    private static void oneNumber(String before, int least, int most, int number) {
        String text = before + number + ";1";
        boolean due = number >= least && number <= most;
        Check.isTrue("firstError of " + text, due == (Pieces.errorIn(text) == text.length()));
        TempoPlayer player = new TempoPlayer();
        Pieces.write(player, text);
        Class<?> thrown = Check.thrownBy(player::load);
        Check.isTrue("load of " + text, thrown == (due ? null : Pieces.ARGUMENT));
    }

    /** Which characters may follow, for every one of them. */
    private static void promise16EveryCharacter() {
        mayFollow("", "123456789");
        mayFollow("1", "012drp;");
        mayFollow("2", "drp;");
        mayFollow("12", "drp;");
        mayFollow("1d", "12345678");
        mayFollow("1d1", "rp;");
        mayFollow("1r", "123456789");
        mayFollow("1r6", "0123456789");
        mayFollow("1r99", "0123456789");
        mayFollow("1r100", "0123456789p;");
        mayFollow("1r6000", "0p;");
        mayFollow("1r6001", "p;");
        mayFollow("1r5999", "0123456789p;");
        mayFollow("1r60000", "p;");
        mayFollow("1p", "123456789");
        mayFollow("1p1", "0123456789;");
        mayFollow("1p2000", "0;");
        mayFollow("1p1999", "0123456789;");
        mayFollow("1p20000", ";");
        mayFollow("1;", "123456789");
        mayFollow("1d8r100p1;1", "012drp;");
    }

    private static void mayFollow(String before, String due) {
        for (int code = 32; code <= 126; code++) {
            boolean may = due.indexOf(code) >= 0;
            String text = before + (char) code;
            Check.same("firstError of " + text, before.length() + (may ? 1 : 0), Pieces.errorIn(text));
        }
    }
}
