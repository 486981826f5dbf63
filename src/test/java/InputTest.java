/** Input text, and promises 14 to 16. */
public final class InputTest {
    public static void main(String[] args) {
        texts();
        numbers();
        syntaxErrors();
        everyCharacter();
        promise14();
        promise14Refused();
        promise15();
        promise16();
        Doc.close(InputTest.class);
    }

    private static void texts() {
        Doc.says("Input text", "The buffer has at most 60 characters.");
        TempoPlayer player = new TempoPlayer();
        for (int length = 1; length <= 60; length++) {
            Check.same("append", length, player.append("12d8r60000p20000;".charAt((length - 1) % 17)));
        }
        Check.refused("a 61st", player, Pieces.STATE, () -> player.append('1'));
        Check.same("its length", 60, player.firstError());

        Doc.says("Input text", "A text is one or more bars separated by \";\".");
        loads("1", "1 1 0 0");
        loads("1;2", "1 1 0 0, 2 1 0 0");
        loads("12d8r60000p20000;1;12d8r60000p20000", "12 8 60000 20000, 1 1 0 0, 12 8 60000 20000");
        refuses("");
        refuses(";");
        refuses("1;");
        refuses(";1");
        refuses("1;;1");
        refuses("1,1");

        Doc.says("Input text", "A bar is written as its number of beats, 1 to 12; then, possibly, \"d\" and the digit of its division, "
            + "1 to 8; then, possibly, \"r\" and its rubber length, 100 to 60000; then, possibly, \"p\" and its pause, 1 to 20000.");
        loads("12d1", "12 1 0 0");
        loads("1d8", "1 8 0 0");
        loads("1r100", "1 1 100 0");
        loads("1r60000", "1 1 60000 0");
        loads("1p1", "1 1 0 1");
        loads("1p20000", "1 1 0 20000");
        loads("2d3r400p5", "2 3 400 5");
        loads("2d3p5", "2 3 0 5");
        loads("2r400p5", "2 1 400 5");
        String[] wrong = {"d1", "r100", "p1", "1r100d1", "1p1d1", "1p1r100", "1d1d1", "1r100r100", "1p1p1", "1d12", "1D1", "1 d1"};
        for (String text : wrong) {
            refuses(text);
        }

        Doc.says("Input text", "(Without them the division is 1, it is no rubber bar, and there is no pause.)");
        loads("7", "7 1 0 0");
        loads("7;8d2r300p4;9", "7 1 0 0, 8 2 300 4, 9 1 0 0");
    }

    private static void loads(String text, String due) {
        TempoPlayer player = Pieces.written(text);
        player.load();
        StringBuilder got = new StringBuilder();
        for (int bar = 0; bar < player.count(0); bar++) {
            got.append(bar == 0 ? "" : ", ");
            for (int what = 0; what < 4; what++) {
                got.append(what == 0 ? "" : " ").append(player.bar(bar, what));
            }
        }
        Check.sameText("load of " + text, due, got.toString());
    }

    private static void refuses(String text) {
        new Trial(() -> Pieces.written(text), "load").refused(Pieces.ARGUMENT);
    }

    private static void numbers() {
        Doc.says("Input text", "its number of beats, 1 to 12");
        allNumbers("", 1, 12, 200);
        Doc.says("Input text", "the digit of its division, 1 to 8");
        allNumbers("1d", 1, 8, 200);
        Doc.says("Input text", "its rubber length, 100 to 60000");
        allNumbers("1r", 100, 60000, 1200);
        int[] lengths = {9999, 10000, 59999, 60000, 60001, 60010, 61000, 70000, 99999, 100000, 600000, Integer.MAX_VALUE};
        for (int length : lengths) {
            oneNumber("1r", 100, 60000, Integer.toString(length));
        }
        oneNumber("1r", 100, 60000, "4294967396");
        Doc.says("Input text", "its pause, 1 to 20000");
        allNumbers("1p", 1, 20000, 1200);
        int[] pauses = {9999, 10000, 19999, 20000, 20001, 20010, 21000, 30000, 99999, 100000, 200000, Integer.MAX_VALUE};
        for (int pause : pauses) {
            oneNumber("1p", 1, 20000, Integer.toString(pause));
        }
        oneNumber("1p", 1, 20000, "4294967297");

        Doc.says("Input text", "Numbers have no leading zeros.");
        String[] before = {"", "1d", "1r", "1p", "1;", "2d1;1d"};
        for (String text : before) {
            Check.same("firstError of " + text + "01", text.length(), Pieces.errorIn(text + "01"));
            Check.same("firstError of " + text + "0100", text.length(), Pieces.errorIn(text + "0100"));
            refuses(text + "0100");
        }
        loads("10r100p10", "10 1 100 10");
    }

    private static void allNumbers(String before, int least, int most, int upTo) {
        for (int number = 0; number <= upTo; number++) {
            oneNumber(before, least, most, Integer.toString(number));
        }
    }

    private static void oneNumber(String before, int least, int most, String number) {
        String text = before + number + ";1";
        long value = Long.parseLong(number);
        boolean due = value >= least && value <= most;
        Check.isTrue("firstError of " + text, due == (Pieces.errorIn(text) == text.length()));
        TempoPlayer player = Pieces.written(text);
        Class<?> thrown = Check.thrownBy(player::load);
        Check.isTrue("load of " + text, thrown == (due ? null : Pieces.ARGUMENT));
    }

    private static void syntaxErrors() {
        Doc.says("Input text", "The buffer is read from left to right, and a character is a syntax error if no text, of any length, "
            + "begins with the characters before it and this character.");
        String[] begun = {"", "1", "9", "10", "12", "1d1", "12d8", "1r100", "1r999", "1r1000", "1r60000", "1p1", "1p20000",
            "1d1r100p1", "1d1p1", "1r100p1", "12d8r60000p20000;12d8r60000p20000;12d8r60000p20000", "1;2;3;", "1d", "1r", "1p",
            "1r1", "1r10", "1r6", "1p2", "1d8r9", "1r59999", "1p19999", "1r9999", "1p9999"};
        for (String text : begun) {
            Check.same("firstError of " + text, text.length(), Pieces.errorIn(text));
        }
        String[] wrong = {"!", "0", "13", "20", ";", "d", "1;;", "1;0", "1;13", "1d0", "1d9", "1d11", "1dd", "1d;", "1dr", "1dp",
            "1r0", "1r;", "1r1;", "1r99;", "1r99p", "1r9p", "1r60001", "1r60010", "1r61000", "1r70000", "1r600000", "1r100000",
            "1rd", "1rp", "1r100d", "1r100r", "1p0", "1p;", "1p20001", "1p20010", "1p21000", "1p30000", "1p100000", "1p1d", "1p1r",
            "1p1p", "1d1d", "1 ", " ", "1D", "1R", "1P", "1:", "1/", "1,", "-", "+", "1x", "1d1 ", "12;12x", "1e", "1q", "1s",
            "1d1p5r", "1r100;1r100d", "12d8r60000p20000;12d8r60000p20000;12d8r60000p20000!", "12d8r60000p20000;12d8r60000p20000;12d8"
            + "r60000p2000;;"};
        for (String text : wrong) {
            Check.same("firstError of " + text, text.length() - 1, Pieces.errorIn(text));
            if (text.length() < 60) {
                Check.same("firstError of " + text + "1", text.length() - 1, Pieces.errorIn(text + "1"));
                Check.same("firstError of " + text + ";", text.length() - 1, Pieces.errorIn(text + ";"));
            }
        }
        Check.same("more bars than a piece may have", 60, Pieces.errorIn("1;".repeat(29) + "12"));
        Check.same("and one more begun", 60, Pieces.errorIn("1;".repeat(30)));
    }

    /** Which characters may follow, for every one of them. */
    private static void everyCharacter() {
        Doc.says("Input text", "a character is a syntax error");
        mayFollow("", "123456789");
        mayFollow("1", "012drp;");
        mayFollow("2", "drp;");
        mayFollow("12", "drp;");
        mayFollow("1d", "12345678");
        mayFollow("1d1", "rp;");
        mayFollow("1r", "123456789");
        mayFollow("1r6", "0123456789");
        mayFollow("1r99", "0123456789");
        mayFollow("1r100", "0123456789p;");
        mayFollow("1r6000", "0p;");
        mayFollow("1r6001", "p;");
        mayFollow("1r5999", "0123456789p;");
        mayFollow("1r60000", "p;");
        mayFollow("1p", "123456789");
        mayFollow("1p1", "0123456789;");
        mayFollow("1p2000", "0;");
        mayFollow("1p1999", "0123456789;");
        mayFollow("1p20000", ";");
        mayFollow("1;", "123456789");
        mayFollow("1d8r100p1;1", "012drp;");
    }

    private static void mayFollow(String before, String due) {
        for (int code = 32; code <= 126; code++) {
            boolean may = due.indexOf(code) >= 0;
            String text = before + (char) code;
            Check.same("firstError of " + text, before.length() + (may ? 1 : 0), Pieces.errorIn(text));
        }
    }

    private static void promise14() {
        Doc.says(14, "Appends a character to the input buffer.");
        TempoPlayer player = Pieces.written(" ~a");
        long withA = player.digest();
        player.clearInput();
        Pieces.write(player, " ~b");
        Check.same("the code counts", withA + 1, player.digest());
        TempoPlayer playing = Pieces.playing();
        Check.same("while playing", 3, playing.append('4'));
        playing.stop();
        Check.same("load", 4, playing.load());
        Check.sameText("in their order", "3 4 0 0 1 9", Pieces.barOf(playing, 3));

        Doc.says(14, "`code`: the character code");
        Trial append = new Trial(Pieces::rich, "append", '1');
        append.range(0, 32, 126, Pieces.ARGUMENT);
        TempoPlayer all = new TempoPlayer();
        for (int code = 32; code <= 126; code++) {
            Check.same("append(" + code + ")", 1, all.append(code));
            Check.same("clearInput", 1, all.clearInput());
        }

        Doc.says(14, "Returns the new length of the buffer.");
        new Trial(TempoPlayer::new, "append", 32).answers(1);
        append.answers(3);
        new Trial(() -> Pieces.written("x".repeat(59)), "append", 126).answers(60);
    }

    private static void promise14Refused() {
        Doc.says(14, "Throws `IllegalArgumentException` if code is not 32 to 126");
        new Trial(Pieces::rich, "append", '1').refuses(0, Pieces.ARGUMENT, 31, 127, 0, -1, 128, 128 + '1', 256 + '1',
            65536 + '1', Integer.MIN_VALUE, Integer.MAX_VALUE);

        Doc.says(14, "Throws `IllegalStateException` if the buffer has 60 characters");
        new Trial(Pieces::full, "append", '1').refused(Pieces.STATE);
        new Trial(Pieces::fullPlaying, "append", ' ').refused(Pieces.STATE);
        TempoPlayer player = Pieces.full();
        player.clearInput();
        Check.same("cleared", 1, player.append('1'));
    }

    private static void promise15() {
        Doc.says(15, "Clears the input buffer.");
        TempoPlayer player = Pieces.written("3d");
        player.clearInput();
        Check.same("firstError", 0, player.firstError());
        Check.refused("load", player, Pieces.ARGUMENT, player::load);
        Check.same("append", 1, player.append('5'));
        Check.same("nothing is left of what was cleared", 1, player.load());
        Check.sameText("the bar", "5 1 0 0 1 0", Pieces.barOf(player, 0));
        TempoPlayer playing = Pieces.playing();
        Check.same("while playing", 2, playing.clearInput());
        Check.same("playing goes on", 1, playing.count(9));

        Doc.says(15, "Returns the length that it had.");
        new Trial(TempoPlayer::new, "clearInput").answers(0);
        new Trial(() -> Pieces.written("x"), "clearInput").answers(1);
        new Trial(Pieces::full, "clearInput").answers(60);
        TempoPlayer twice = Pieces.full();
        twice.clearInput();
        Check.same("clearInput again", 0, twice.clearInput());
        Check.same("after load", 0, Pieces.of("1;1").clearInput());
    }

    private static void promise16() {
        Doc.says(16, "Finds the first syntax error of the buffer.");
        new Trial(() -> Pieces.written("1x0;;"), "firstError").answers(1);
        new Trial(() -> Pieces.written("1;1d9r1"), "firstError").answers(4);
        TempoPlayer player = Pieces.written("1x");
        player.firstError();
        Check.same("the buffer stays", 2, player.clearInput());
        TempoPlayer playing = Pieces.playing();
        Check.same("while playing", 2, playing.firstError());

        Doc.says(16, "Returns the index of the first character that is a syntax error; the length of the buffer if there is none.");
        new Trial(TempoPlayer::new, "firstError").answers(0);
        new Trial(() -> Pieces.written("x"), "firstError").answers(0);
        new Trial(() -> Pieces.written("1"), "firstError").answers(1);
        new Trial(() -> Pieces.written("1;"), "firstError").answers(2);
        new Trial(() -> Pieces.written("1;".repeat(29) + "1x"), "firstError").answers(59);
        new Trial(() -> Pieces.written("1;".repeat(30)), "firstError").answers(60);
        new Trial(() -> Pieces.written("0".repeat(60)), "firstError").answers(0);
        new Trial(() -> Pieces.written("1".repeat(60)), "firstError").answers(2);
    }
}
