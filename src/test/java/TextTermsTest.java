/** The sentences of the term TEXTS OF COMMANDS, each with its edges. */
public final class TextTermsTest {
    private TextTermsTest() {
    }

    public static void main(String[] args) {
        Sentences.run(TextTermsTest.class);
    }

    /** A wall of four places with two lamps, of which the second has failed. */
    private static LampMural mural() {
        LampMural m = new LampMural();
        m.begin(2, 2);
        m.addLamp(100, 5);
        m.addLamp(90, 0);
        m.setRectangle(0, 0, 0, 2, 2);
        m.setRectangle(1, 1, 0, 2, 2);
        m.paint(0, 0, 1, 1, 60);
        m.setWorks(1, false);
        return m;
    }

    private static void fault(String text, int fault) {
        LampMural m = Check.typed(mural(), text);
        long before = m.digest();
        Check.due("runCommands() of '" + text + "'", m.runCommands(), -10 - fault);
        Check.due("the digest after '" + text + "'", m.digest(), before);
    }

    private static void runs(String text, int commands) {
        LampMural m = Check.typed(mural(), text);
        Check.due("runCommands() of '" + text + "'", m.runCommands(), commands);
    }

    /** A command of the text does what the call does. */
    private static void does(String text, Check.MuralCall call) {
        LampMural byText = Check.typed(mural(), text);
        Check.due("runCommands() of '" + text + "'", byText.runCommands(), 1);
        byText.clearCommands();
        LampMural byCall = mural();
        call.answer(byCall);
        Check.due("the digest after '" + text + "'", byText.digest(), byCall.digest());
    }

    /** A word stands with just so many numbers, and not with a letter less or more. */
    private static void takesNumbers(String word, int count) {
        for (int few = 0; few < count; few++) {
            String text = word + " 1".repeat(few);
            fault(text + ";", text.length());
            fault(text + " ;", text.length() + 1);
            fault(text, text.length());
            fault(text + " ", text.length() + 1);
        }
        String all = word + " 1".repeat(count);
        Check.due("runCommands() of '" + all + ";' has no fault",
                Check.typed(mural(), all + ";").runCommands() >= 0 ? 1 : 0, 1);
        fault(all, all.length());
        fault(all + " 1;", all.length() + 1);
        String numbers = " 1".repeat(count) + ";";
        for (int i = 0; i < word.length(); i++) {
            char another = word.charAt(i) == 'z' ? 'y' : (char) (word.charAt(i) + 1);
            fault(word.substring(0, i) + another + word.substring(i + 1) + numbers, 0);
        }
        fault(word.substring(1) + numbers, 0);
        fault(word.substring(0, word.length() - 1) + numbers, 0);
        fault(word + "s" + numbers, 0);
        fault("s" + word + numbers, 0);
        fault(word.substring(0, 1).toUpperCase() + word.substring(1) + numbers, 0);
    }

    private static boolean isSmallLetter(int value) {
        return value >= 'a' && value <= 'z';
    }

    private static boolean isDigit(int value) {
        return value >= '0' && value <= '9';
    }

    @Sentence(in = "Terms, TEXTS OF COMMANDS", says = "The command text has at most 150 bytes.")
    static void texts_atMost150Bytes() {
        LampMural m = Check.typed(new LampMural(), "burn 1;".repeat(21) + "  ");
        Check.due("the byte 150", m.type(' '), 150);
        Check.state("the byte 151", m, () -> m.type(' '));
        Check.due("a run of 150 bytes", m.runCommands(), 21);
        runs(" ".repeat(143) + "burn 1;", 1);
        runs("burn 1" + " ".repeat(143) + ";", 1);
        fault(" ".repeat(144) + "burn 1", 150);
        fault(" ".repeat(145) + "burn ", 150);
        fault(" ".repeat(146) + "burn", 150);
        fault(" ".repeat(147) + "bur", 147);
        fault(" ".repeat(148) + ";;", 148);
        fault(" ".repeat(149) + ";", 149);
        fault("a".repeat(150), 0);
    }

    @Sentence(in = "Terms, TEXTS OF COMMANDS",
            says = "(perhaps none: a text that is empty, or has spaces alone, has no fault)")
    static void texts_emptyOrSpacesAlone() {
        runs("", 0);
        runs(" ", 0);
        runs(" ".repeat(150), 0);
        fault("\t", 0);
        fault(" \t", 1);
        fault("\u0000", 0);
        fault(" \u0000", 1);
    }

    @Sentence(in = "Terms, TEXTS OF COMMANDS", says = "each of which is a word of letters a to z")
    static void texts_wordOfLettersAToZ() {
        for (int c = 0; c <= 127; c++) {
            String sign = String.valueOf((char) c);
            if (c == ' ') {
                runs(sign + "burn 1;", 1);
                runs("burn" + sign + " 1;", 1);
            } else {
                fault(sign + "burn 1;", 0);
                fault("burn" + sign + " 1;", isSmallLetter(c) ? 0 : 4);
            }
        }
        fault("BURN 1;", 0);
        fault("bu`n 1;", 0);
        fault("bu{n 1;", 0);
    }

    @Sentence(in = "Terms, TEXTS OF COMMANDS",
            says = "each of one to four digits (zeros in front are allowed; a fifth digit cannot stand)")
    static void texts_numberOfOneToFourDigits() {
        fault("burn ;", 5);
        runs("burn 1;", 1);
        runs("burn 12;", 1);
        runs("burn 123;", 1);
        runs("burn 1234;", 1);
        runs("burn 0001;", 1);
        runs("burn 9999;", 1);
        fault("burn 12345;", 9);
        fault("burn 00001;", 9);
        fault("burn 00000;", 9);
        fault("burn 12345", 9);
        runs("shift -0001 0010;", 1);
        fault("shift -00001 0;", 11);
        fault("shift 0 -00010;", 13);
        runs("paint 0000 0000 0001 0001 0255;", 1);
        fault("paint 0000 0000 0001 0001 00255;", 30);
        does("burn 0010;", m -> m.burn(10));
        does("burn 0987;", m -> m.burn(987));
    }

    @Sentence(in = "Terms, TEXTS OF COMMANDS", says = "each of one to four digits")
    static void texts_eachByteInANumber() {
        for (int c = 0; c <= 127; c++) {
            String first = "burn " + (char) c + ";";
            String second = "burn 1" + (char) c + ";";
            if (isDigit(c)) {
                runs(first, c == '0' ? 0 : 1);
                runs(second, 1);
            } else {
                fault(first, c == '-' || c == ' ' ? 6 : 5);
                if (c == ' ') {
                    runs(second, 1);
                } else {
                    fault(second, c == ';' ? 7 : 6);
                }
            }
        }
    }

    @Sentence(in = "Terms, TEXTS OF COMMANDS", says = "perhaps with \"-\" in front")
    static void texts_oneMinusInFront() {
        does("shift -1 -10;", m -> m.shift(-1, -10));
        does("shift -0 -0000;", m -> m.shift(0, 0));
        does("shift 10 10;", m -> m.shift(10, 10));
        runs("burn -1;", 0);
        fault("shift --1 1;", 7);
        fault("shift - 1 1;", 7);
        fault("shift -;", 7);
        fault("shift -", 7);
        fault("shift 1- 1;", 7);
        fault("shift +1 1;", 6);
        fault("-shift 1 1;", 0);
    }

    @Sentence(in = "Terms, TEXTS OF COMMANDS", says = "and with at least one space (byte 32) in front")
    static void texts_atLeastOneSpaceBeforeANumber() {
        fault("burn1;", 4);
        fault("burn-1;", 4);
        runs("burn 1;", 1);
        runs("burn          1;", 1);
        runs("shift   1     1;", 1);
        fault("shift 1-1;", 7);
        fault("shift 1,1;", 7);
        fault("burn\t1;", 4);
        fault("burn\u001f1;", 4);
        fault("burn!1;", 4);
        fault("burn\n1;", 4);
    }

    @Sentence(in = "Terms, TEXTS OF COMMANDS", says = "and a semicolon.")
    static void texts_semicolonBehindEachCommand() {
        fault("burn 1", 6);
        fault("burn 1:", 6);
        fault("burn 1<", 6);
        fault("burn 1 burn 2;", 7);
        fault("burn 1;burn 2", 13);
        fault("burn 1;;", 7);
        fault("; burn 1;", 0);
        runs("burn 1;burn 2;", 2);
    }

    @Sentence(in = "Terms, TEXTS OF COMMANDS",
            says = "Spaces may also stand in front of a command, in front of a semicolon, and at the end.")
    static void texts_spacesInFrontAndAtTheEnd() {
        runs(" burn 1;", 1);
        runs("burn 1 ;", 1);
        runs("burn 1; ", 1);
        runs("   burn 1   ;   burn 1   ;   ", 2);
        fault("bu rn 1;", 0);
        fault("burn 1 2;", 7);
        fault("burn - 1;", 6);
        fault("   burn 1   ;   x   ", 16);
    }

    @Sentence(in = "Terms, TEXTS OF COMMANDS", says = "wall c r (begin(c, r))")
    static void texts_wall() {
        does("wall 3 2;", m -> m.begin(3, 2));
        does("wall 24 16;", m -> m.begin(24, 16));
        takesNumbers("wall", 2);
    }

    @Sentence(in = "Terms, TEXTS OF COMMANDS", says = "paint x y u v t (paint(x, y, u, v, t))")
    static void texts_paint() {
        does("paint 0 0 1 1 255;", m -> m.paint(0, 0, 1, 1, 255));
        does("paint 1 0 1 1 7;", m -> m.paint(1, 0, 1, 1, 7));
        takesNumbers("paint", 5);
    }

    @Sentence(in = "Terms, TEXTS OF COMMANDS", says = "lamp g l (addLamp(g, l))")
    static void texts_lamp() {
        does("lamp 255 1;", m -> m.addLamp(255, 1));
        does("lamp 0 255;", m -> m.addLamp(0, 255));
        takesNumbers("lamp", 2);
    }

    @Sentence(in = "Terms, TEXTS OF COMMANDS", says = "corner n i x y (setCorner(n, i, x, y))")
    static void texts_corner() {
        does("corner 1 3 -20 40;", m -> m.setCorner(1, 3, -20, 40));
        does("corner 0 2 1 2;", m -> m.setCorner(0, 2, 1, 2));
        takesNumbers("corner", 4);
    }

    @Sentence(in = "Terms, TEXTS OF COMMANDS", says = "shift x y (shift(x, y))")
    static void texts_shift() {
        does("shift -10 10;", m -> m.shift(-10, 10));
        does("shift 1 0;", m -> m.shift(1, 0));
        takesNumbers("shift", 2);
    }

    @Sentence(in = "Terms, TEXTS OF COMMANDS", says = "fail n (setWorks(n, false))")
    static void texts_fail() {
        does("fail 0;", m -> m.setWorks(0, false));
        does("fail 1;", m -> m.setWorks(1, false));
        takesNumbers("fail", 1);
    }

    @Sentence(in = "Terms, TEXTS OF COMMANDS", says = "mend n (setWorks(n, true))")
    static void texts_mend() {
        does("mend 0;", m -> m.setWorks(0, true));
        does("mend 1;", m -> m.setWorks(1, true));
        takesNumbers("mend", 1);
    }

    @Sentence(in = "Terms, TEXTS OF COMMANDS", says = "burn h (burn(h)).")
    static void texts_burn() {
        does("burn 1;", m -> m.burn(1));
        does("burn 9999;", m -> m.burn(9999));
        takesNumbers("burn", 1);
    }

    @Sentence(in = "Terms, TEXTS OF COMMANDS",
            says = "The fault of a command text is the index of the first byte that cannot stand at its place")
    static void texts_faultIsTheFirstByte() {
        fault("?", 0);
        fault("burn 1;burn x;zzz", 12);
        fault("burn x;burn y;", 5);
        fault(" ".repeat(149) + "?", 149);
        fault("burn 1;?burn", 7);
        fault("burn 1; lamp 1 1;wall 1;", 23);
    }

    @Sentence(in = "Terms, TEXTS OF COMMANDS", says = "or the length of the text if it ends too soon.")
    static void texts_faultOfEachBeginning() {
        String text = "corner 0 1 -2 30 ; burn 4;";
        int none = -1;
        int[] faults = {none, 0, 0, 0, 0, 0, 6, 7, 8, 9, 10, 11, 12, 13, 14, 15, 16, 17, none, none, 19, 19, 19, 23,
            24, 25, none};
        for (int length = 0; length < faults.length; length++) {
            if (faults[length] == none) {
                runs(text.substring(0, length), length < 18 ? 0 : length < 26 ? 1 : 2);
            } else {
                fault(text.substring(0, length), faults[length]);
            }
        }
    }

    @Sentence(in = "Terms, TEXTS OF COMMANDS",
            says = "A word that is not one of these is at fault with its first byte, found when the word is complete")
    static void texts_unknownWordIsAtFaultWithItsFirstByte() {
        String[] words = {"b", "bur", "burnt", "xyz", "walls", "wal", "begin", "add", "undo", "abcdefghijklmnopqrstuvwxyz"};
        for (String word : words) {
            fault(word + " 1;", 0);
            fault("  " + word + ";", 2);
            fault("burn 1; " + word + " 1 1;", 8);
        }
    }

    @Sentence(in = "Terms, TEXTS OF COMMANDS",
            says = "when a byte that is no letter, or the end of the text, follows it.")
    static void texts_wordIsCompleteAtANonLetterOrTheEnd() {
        String[] behind = {"", " ", ";", "1", "-", "\t", "A", "Z", "`", "{", "\u0000", "\u007f"};
        for (String bytes : behind) {
            fault("bur" + bytes, 0);
            fault("burn 1;  lam" + bytes, 9);
        }
        fault("burn", 4);
        fault("burnA", 4);
        fault("burna", 0);
        fault("burnz", 0);
    }

    @Sentence(in = "Terms, TEXTS OF COMMANDS", says = "(That a number is out of its range is no fault.)")
    static void texts_numberOutOfItsRangeIsNoFault() {
        String[] texts = {"wall 0 1;", "wall 1 17;", "paint 9999 0 0 0 0;", "paint 0 0 0 0 -1;", "lamp 256 0;",
            "corner 2 0 0 0;", "corner 0 4 0 0;", "corner 0 0 -21 0;", "shift 11 0;", "shift 0 -9999;", "fail 8;",
            "mend -1;", "burn 0;", "burn -9999;"};
        for (String text : texts) {
            runs(text, 0);
            runs("burn 9999;" + text + "burn 1;", 1);
            fault(text + "?", text.length());
        }
    }

    @Sentence(in = "Terms, TEXTS OF COMMANDS", says = "To run a command text means: if it has a fault, nothing is done")
    static void texts_nothingIsDoneAtAFault() {
        fault("burn 1;burn 1;?", 14);
        fault("burn 1;burn 1", 13);
        fault("wall 9 9;paint 0 0 8 8 9;lamp 1 1;shift 1 1;fail 0;mend 1;burn 1;bur", 65);
        LampMural m = Check.typed(new LampMural(), "burn 1;?");
        Check.due("runCommands()", m.runCommands(), -17);
        Check.state("undo() after a text with a fault", m, m::undo);
    }

    @Sentence(in = "Terms, TEXTS OF COMMANDS", says = "otherwise the commands are carried out in their order")
    static void texts_commandsInTheirOrder() {
        LampMural m = Check.typed(new LampMural(), "paint 0 0 0 0 7;wall 2 2;");
        Check.due("paint, then wall", m.runCommands(), 2);
        Check.due("the target then", m.place(0, 0, 0), 0);
        Check.typed(m, "wall 2 2;paint 0 0 0 0 7;");
        Check.due("wall, then paint", m.runCommands(), 2);
        Check.due("the target then", m.place(0, 0, 0), 7);
        Check.typed(m, "paint 0 0 0 0 8;paint 0 0 1 1 9;lamp 3 1;fail 0;lamp 4 2;fail 1;mend 0;");
        Check.due("seven commands", m.runCommands(), 7);
        Check.due("the target then", m.place(0, 0, 0), 9);
        Check.due("the lamp 0 works", m.lamp(0, 3), 1);
        Check.due("the lamp 1 does not", m.lamp(1, 3), 0);
        Check.due("greatest light of the lamp 1", m.lamp(1, 0), 4);
    }

    @Sentence(in = "Terms, TEXTS OF COMMANDS",
            says = "until one of them would throw an exception, which is not thrown; those before it stay done")
    static void texts_stopsAtTheFirstException() {
        LampMural first = Check.typed(new LampMural(), "burn 0;burn 1;");
        Check.due("the first would throw", first.runCommands(), 0);
        Check.due("hours then", first.whole(12), 0);
        LampMural middle = Check.typed(new LampMural(), "burn 1;fail 0;burn 2;");
        Check.due("the second would throw", middle.runCommands(), 1);
        Check.due("hours then", middle.whole(12), 1);
        LampMural last = Check.typed(new LampMural(), "burn 1;burn 2;paint 0 0 12 0 1;");
        Check.due("the last would throw", last.runCommands(), 2);
        Check.due("hours then", last.whole(12), 3);
        LampMural smaller = Check.typed(new LampMural(), "paint 11 7 11 7 5;wall 11 7;paint 10 6 10 6 5;paint 11 7 11 7 5;");
        Check.due("a place that the smaller wall has not", smaller.runCommands(), 3);
        Check.due("the sum of the targets then", smaller.whole(10), 5);
    }

    @Sentence(in = "Terms, TEXTS OF COMMANDS", says = "those before it stay done, and they alone count.")
    static void texts_onlyThoseBeforeItCount() {
        String nine = "lamp 1 1;".repeat(9);
        LampMural m = Check.typed(new LampMural(), nine + "burn 1;");
        Check.due("the lamp 8 cannot be added", m.runCommands(), 8);
        Check.due("lamps then", m.whole(4), 8);
        Check.due("hours then", m.whole(12), 0);
        Check.due("the same again", m.runCommands(), 0);
        runs("burn 1;".repeat(21), 21);
        runs("burn 1;".repeat(20) + "burn 0;", 20);
    }

    @Sentence(in = "Terms, TEXTS OF COMMANDS",
            says = "A run saves one state, the one from before it; its commands save none.")
    static void texts_aRunSavesOneState() {
        String[] texts = {"", "burn 0;", "burn 1;", "burn 1;".repeat(21), "wall 5 5;paint 0 0 4 4 1;lamp 1 1;corner 0 0 1 1;"
            + "shift 1 1;fail 0;mend 0;burn 1;"};
        for (String text : texts) {
            Check.undoable("a run of '" + text + "'", Check.typed(new LampMural(), text), LampMural::runCommands);
        }
        LampMural m = new LampMural();
        m.burn(1);
        m.burn(2);
        m.burn(4);
        m.burn(8);
        Check.typed(m, "burn 16;".repeat(5)).runCommands();
        Check.due("undo() of the run", m.undo(), 3);
        Check.due("hours before the run", m.whole(12), 15);
        Check.due("undo() before it", m.undo(), 2);
        Check.due("hours before it", m.whole(12), 7);
    }
}
