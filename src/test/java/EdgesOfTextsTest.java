/** Promises 2 to 4, 6 and 7, and the school texts of section 6: each boundary that a sentence names, and what lies beside it. */
public final class EdgesOfTextsTest {
    private static final int NONE = SubstituteDesk.NONE;
    private static final String FULL = "grid 2 3; subject 0; subject 1; teacher 2 0; teacher 3 0 1; room 0; room 1; "
            + "classes 2; lesson 0 0 0 0 0; lesson 5 1 1 1 1;";
    private static final String SMALL_TAIL = "subject 0; teacher 0 0; room 0; classes 1;";

    public static void main(String[] args) {
        eachCharacterOfAppendText();
        lengthOfTheBuffer();
        refusedAppendChangesNothing();
        truncateText();
        truncatedCharactersAreGone();
        nothingIsReadBehindTheEnd();
        numberOfLessonsIsReturned();
        newSchoolAfterAnother();
        nothingOfTheOldSchoolIsLeft();
        bufferIsEmptyAfterwards();
        errorsAtFirstAndLater();
        positionsAtBothEnds();
        ends();
        tokensThatCannotStand();
        whichBytesMayStand();
        ranges();
        rangesOfLessons();
        longNumbers();
        statementsTooFewOrTooMany();
        tooManyOnlyWhereOneCouldStand();
        occupiedInTheSlotAlone();
        repeatedSubjects();
        qualifiedAndOfTheKind();
        lowestCodeAtOneToken();
        firstTokenCounts();
        Check.end();
    }

    private static void error(SubstituteDesk desk, String call, int got, int code, int position) {
        Check.same(call, got, NONE);
        Check.same(call + ": errorCode", desk.errorCode(), code);
        Check.same(call + ": errorPosition", desk.errorPosition(), position);
    }

    private static void schoolError(String text, int code, int position) {
        SubstituteDesk desk = new SubstituteDesk();
        error(desk, "school " + text, Check.parse(desk, text), code, position);
    }

    private static void marked(String text, int code) {
        int at = text.indexOf('^');
        schoolError(text.substring(0, at) + text.substring(at + 1), code, at);
    }

    private static void correct(String text, int lessons) {
        SubstituteDesk desk = new SubstituteDesk();
        Check.same("school " + text, Check.parse(desk, text), lessons);
        Check.same("errorCode of " + text, desk.errorCode(), 0);
        Check.same("errorPosition of " + text, desk.errorPosition(), NONE);
    }

    // ---- promises 2 and 3: the buffer

    /** "the four bytes of each argument in order, the most significant byte first" */
    private static void eachCharacterOfAppendText() {
        for (int at = 0; at < 20; at++) {
            for (int character : new int[] {0, 'x', 127, 128, 255}) {
                int[] numbers = new int[5];
                for (int k = 0; k < 20; k++) {
                    numbers[k / 4] |= (k == at ? character : ' ') << 24 - k % 4 * 8;
                }
                SubstituteDesk desk = new SubstituteDesk();
                desk.appendText(numbers[0], numbers[1], numbers[2], numbers[3], numbers[4]);
                error(desk, "character " + character + " at " + at, desk.parseSchool(), 1, at);
            }
        }
        SubstituteDesk desk = new SubstituteDesk();
        Check.same("twenty", desk.appendText('a' << 24, 0, 0, 0, 0), 20);
        Check.same("twenty more stand behind them", desk.appendText('b' << 24, 0, 0, 0, 0), 40);
        desk.truncateText(1);
        desk.appendText(0x6c6c3b20, 0x20202020, 0x20202020, 0x20202020, 0x20202020);
        Check.same("a, then ll;", desk.runScript(), 1);
    }

    /** "IllegalStateException if the length would be above 900" */
    private static void lengthOfTheBuffer() {
        for (int length = 878; length <= 900; length++) {
            SubstituteDesk desk = new SubstituteDesk();
            Check.load(desk, " ".repeat(length));
            if (length <= 880) {
                Check.same("appendText to " + length, desk.appendText(0, 0, 0, 0, 0), length + 20);
            } else {
                Check.refused("appendText to " + length, IllegalStateException.class,
                        () -> desk.appendText(0, 0, 0, 0, 0));
            }
        }
    }

    private static void refusedAppendChangesNothing() {
        SubstituteDesk desk = new SubstituteDesk();
        Check.load(desk, FULL + " ".repeat(881 - FULL.length()));
        Check.refused("appendText to 901", IllegalStateException.class, () -> desk.appendText(-1, -1, -1, -1, -1));
        Check.refused("the length stays", IllegalArgumentException.class, () -> desk.truncateText(882));
        Check.same("the length stays", desk.truncateText(881), 881);
        Check.same("the text stays", desk.parseSchool(), 2);
        Check.load(desk, FULL + " ".repeat(900 - FULL.length()));
        Check.refused("appendText to 920", IllegalStateException.class, () -> desk.appendText(-1, -1, -1, -1, -1));
        Check.same("all 900 are read", desk.parseSchool(), 2);
    }

    /** "IllegalArgumentException if length is negative or above the present length" */
    private static void truncateText() {
        SubstituteDesk desk = new SubstituteDesk();
        int[] lengths = {900, 899, 880, 20, 19, 1, 0};
        Check.load(desk, "x".repeat(900));
        for (int length : lengths) {
            Check.same("truncateText", desk.truncateText(length), length);
            for (int bad : new int[] {length + 1, -1, Integer.MIN_VALUE, Integer.MAX_VALUE}) {
                Check.refused("truncateText(" + bad + ") of " + length, IllegalArgumentException.class,
                        () -> desk.truncateText(bad));
            }
            Check.same("truncateText to the same", desk.truncateText(length), length);
        }
    }

    /** "Truncates the text buffer to its first characters." */
    private static void truncatedCharactersAreGone() {
        SubstituteDesk desk = new SubstituteDesk();
        Check.load(desk, "all;all;all;");
        desk.truncateText(8);
        Check.same("the first eight stay", desk.runScript(), 2);
        Check.load(desk, "all;all;all;");
        desk.truncateText(7);
        error(desk, "the first seven stay", desk.runScript(), 1, 7);
        Check.load(desk, "all;all;all;");
        desk.truncateText(0);
        Check.same("none stay", desk.runScript(), 0);
        Check.load(desk, "all;xxxxxxxxx");
        desk.truncateText(4);
        Check.same("new ones come behind", desk.appendText(0x20202020, 0x20202020, 0x616c6c3b, 0x20202020, 0x20202020),
                24);
        Check.same("and nothing between", desk.runScript(), 2);
    }

    /** What stood behind the new end is not joined to what stands before it. */
    private static void nothingIsReadBehindTheEnd() {
        truncated("grid 1 2;", 4, 1, 4);
        truncated("grids 1 2;", 4, 1, 4);
        truncated("grid 12", 6, 1, 6);
        truncated("grid 12;", 6, 1, 6);
        truncated("grid 1;", 6, 1, 6);
        truncated("grid 1 2;;", 9, 1, 9);
        truncated("grid \n ", 5, 1, 5);
        SubstituteDesk desk = new SubstituteDesk();
        for (String behind : new String[] {";", "x", "0", " ", "\n", "$"}) {
            Check.load(desk, FULL + behind);
            desk.truncateText(FULL.length());
            Check.same("a school before " + behind, desk.parseSchool(), 2);
            Check.load(desk, "all;" + behind);
            desk.truncateText(4);
            Check.same("a script before " + behind, desk.runScript(), 1);
            Check.load(desk, "all" + behind);
            desk.truncateText(3);
            error(desk, "a script before " + behind, desk.runScript(), 1, 3);
            Check.load(desk, behind.repeat(20));
            desk.truncateText(0);
            Check.same("no steps before " + behind, desk.runScript(), 0);
        }
    }

    private static void truncated(String text, int length, int code, int position) {
        SubstituteDesk desk = new SubstituteDesk();
        Check.load(desk, text);
        desk.truncateText(length);
        error(desk, text + " truncated to " + length, desk.parseSchool(), code, position);
    }

    // ---- promises 4 to 7

    private static String lessons(int number) {
        StringBuilder text = new StringBuilder("grid5 6;subject0;teacher1 0;teacher1 0;room0;room0;classes2;");
        for (int i = 0; i < number; i++) {
            int k = i % 2;
            text.append("lesson").append(i / 2).append(' ').append(k).append(" 0 ").append(k).append(' ').append(k)
                    .append(';');
        }
        return text.toString();
    }

    private static void numberOfLessonsIsReturned() {
        for (int number : new int[] {0, 1, 2, 39, 40}) {
            SubstituteDesk desk = new SubstituteDesk();
            Check.same("lessons", Check.parse(desk, lessons(number)), number);
            Check.same("count(6)", desk.count(6), number);
            if (number > 0) {
                Check.numbered("lesson", number, i -> desk.lesson(i, 0));
                Check.same("the last one", desk.lesson(number - 1, 0), (number - 1) / 2);
            }
        }
        schoolError(lessons(41), 5, lessons(40).length());
    }

    /** "the new school replaces the present one; nobody is absent" and "makes all earlier changes not undoable" */
    private static void newSchoolAfterAnother() {
        SubstituteDesk desk = new SubstituteDesk();
        Check.parse(desk, lessons(40));
        desk.setAbsent(1, 4, true);
        desk.setAbsent(0, 0, true);
        desk.reopen(38);
        desk.reopen(39);
        desk.supervise(39, 0);
        String opened = Check.state(desk);
        Check.same("a wrong text", Check.parse(desk, lessons(40) + "x"), NONE);
        Check.same("the state stays", Check.state(desk), opened);
        Check.same("the changes stay", desk.undoDepth(), 5);
        Check.same("a smaller school", Check.parse(desk, lessons(1)), 1);
        Check.same("nobody is absent", desk.teacher(0, 2) + desk.teacher(1, 2), 0);
        Check.same("the lesson is taught", desk.lesson(0, 3), 0);
        Check.same("none differs, none is open, none is supervised", desk.count(7) + desk.count(8) + desk.count(9), 0);
        Check.refused("no undo", IllegalStateException.class, desk::undo);
        Check.same("teacher 1 has no lesson", desk.teacher(1, 3) + desk.teacher(1, 6), 0);
        Check.same("the larger one again", Check.parse(desk, lessons(40)), 40);
        Check.same("all are as in the text", desk.count(7) + desk.count(8) + desk.count(9), 0);
        Check.same("the last lesson", desk.lesson(39, 3), 1);
        Check.same("wrong after correct", Check.parse(desk, ""), NONE);
        Check.same("the school stays", desk.count(6), 40);
    }

    /** Whatever school was there before, and in whatever state: all answers are as on a new object. */
    private static void nothingOfTheOldSchoolIsLeft() {
        String[] schools = {lessons(40), FULL, "grid 1 2;" + SMALL_TAIL, "grid 1 1;" + SMALL_TAIL + "lesson 0 0 0 0 0;",
            lessons(12) + "lesson 7 0 0 1 1;", lessons(3)};
        for (String before : schools) {
            for (String after : schools) {
                for (boolean isWithAbsentOnes : new boolean[] {true, false}) {
                    SubstituteDesk used = Check.school(before);
                    makeChanges(used, isWithAbsentOnes);
                    SubstituteDesk fresh = new SubstituteDesk();
                    Check.parse(used, after);
                    Check.parse(fresh, after);
                    Check.isTrue(after + " after " + before + ": all answers are alike",
                            Check.everything(used).equals(Check.everything(fresh)));
                    Check.same("opened", used.setAbsent(0, 0, true), fresh.setAbsent(0, 0, true));
                    Check.same("repaired", used.repairAll(), fresh.repairAll());
                    Check.same("reset", used.reset(), fresh.reset());
                    used.setAbsent(0, 0, false);
                    fresh.setAbsent(0, 0, false);
                    makeChanges(used, false);
                    makeChanges(fresh, false);
                    Check.same(after + " after " + before + ": state", Check.state(used), Check.state(fresh));
                }
            }
        }
    }

    /** Opens, supervises and moves as many lessons as can be, and looks for the chain of each. */
    private static void makeChanges(SubstituteDesk desk, boolean isWithAbsentOnes) {
        for (int i = 0; i < desk.count(6); i++) {
            Check.script(desk, "open " + i + ";");
            if (i % 3 == 0) {
                int slot = desk.lesson(i, 0);
                Check.script(desk, "watch " + i + " " + (desk.count(3) - 1) + ";");
                Check.script(desk, "move " + i + " " + (slot == 0 ? 1 : 0) + ";");
            }
            desk.chain(i);
        }
        for (int day = 0; day < desk.count(0) && isWithAbsentOnes; day++) {
            desk.setAbsent(desk.count(3) - 1, day, true);
            desk.setAbsent(0, day, day % 2 == 0);
        }
    }

    private static void bufferIsEmptyAfterwards() {
        String[] texts = {FULL, "x", "", FULL + "lesson", " ".repeat(900)};
        for (String text : texts) {
            SubstituteDesk desk = new SubstituteDesk();
            Check.parse(desk, text);
            Check.refused("empty after the school " + text, IllegalArgumentException.class, () -> desk.truncateText(1));
            Check.same("appendText then", desk.appendText(0, 0, 0, 0, 0), 20);
        }
        for (String text : new String[] {"", "all;", "all", "open 1;", " ".repeat(900)}) {
            SubstituteDesk desk = new SubstituteDesk();
            Check.script(desk, text);
            Check.refused("empty after the script " + text, IllegalArgumentException.class, () -> desk.truncateText(1));
            Check.same("appendText then", desk.appendText(0, 0, 0, 0, 0), 20);
        }
    }

    /** "0 if it had no error or there was none": of the latest of both readers, and of nothing else. */
    private static void errorsAtFirstAndLater() {
        SubstituteDesk desk = new SubstituteDesk();
        noError(desk, "at first");
        desk.appendText(0, 0, 0, 0, 0);
        noError(desk, "before the text is read");
        error(desk, "zeros", desk.parseSchool(), 1, 0);
        Check.refused("truncateText", IllegalArgumentException.class, () -> desk.truncateText(1));
        desk.setAbsent(0, 0, true);
        desk.reset();
        desk.writeReport(0);
        desk.undo();
        Check.same("other calls leave the error", desk.errorCode() + desk.errorPosition(), 1);
        Check.script(desk, " all;");
        noError(desk, "after a script");
        error(desk, "of a script", Check.script(desk, " open 9;"), 6, 1);
        error(desk, "of a script", Check.script(desk, "  9;"), 1, 2);
        Check.parse(desk, FULL);
        noError(desk, "after a school");
        error(desk, "of a school", Check.parse(desk, "grid 6"), 2, 5);
        Check.script(desk, "");
        noError(desk, "after no steps");
    }

    private static void noError(SubstituteDesk desk, String when) {
        Check.same("errorCode " + when, desk.errorCode(), 0);
        Check.same("errorPosition " + when, desk.errorPosition(), NONE);
    }

    /** "the index of the first byte of a token, or the length of the text at its end" */
    private static void positionsAtBothEnds() {
        for (int length : new int[] {0, 1, 2, 19, 20, 21, 899, 900}) {
            schoolError(" ".repeat(length), 1, length);
            SubstituteDesk desk = new SubstituteDesk();
            Check.same("blanks alone", Check.script(desk, " ".repeat(length)), 0);
        }
        schoolError("\n".repeat(900), 1, 900);
        schoolError(" ".repeat(899) + "x", 1, 899);
        schoolError("x" + " ".repeat(899), 1, 0);
        schoolError("x".repeat(900), 1, 0);
        schoolError("9".repeat(900), 1, 0);
        schoolError(FULL + " ".repeat(899 - FULL.length()) + ";", 1, 899);
        correct(" ".repeat(900 - FULL.length()) + FULL, 2);
        correct(FULL + "\n".repeat(900 - FULL.length()), 2);
        SubstituteDesk desk = new SubstituteDesk();
        error(desk, "a script of 900", Check.script(desk, "all" + " ".repeat(897)), 1, 900);
        error(desk, "a script of 900", Check.script(desk, " ".repeat(899) + "x"), 1, 899);
        Check.same("a script of 900", Check.script(desk, "all" + " ".repeat(896) + ";"), 1);
    }

    // ---- section 6: school texts

    /** A correct text is cut at each place: it is an error unless it may end there. */
    private static void ends() {
        int head = FULL.indexOf("lesson");
        int second = FULL.lastIndexOf("lesson");
        for (int n = 0; n <= FULL.length(); n++) {
            String text = FULL.substring(0, n);
            boolean isCutWord = n > 0 && n < FULL.length() && isLetter(FULL.charAt(n - 1)) && isLetter(FULL.charAt(n));
            if (n == FULL.length()) {
                correct(text, 2);
            } else if (n == second || n == second - 1) {
                correct(text, 1);
            } else if (n == head || n == head - 1) {
                correct(text, 0);
            } else if (isCutWord) {
                schoolError(text, 1, text.lastIndexOf(' ') + 1);
            } else {
                schoolError(text, 1, n);
            }
        }
    }

    private static boolean isLetter(char character) {
        return character >= 'a' && character <= 'z';
    }

    /** Each token of a correct text in turn is replaced by others: each that can't stand there has code 1. */
    private static void tokensThatCannotStand() {
        String[] tokens = "grid 1 2 ; subject 0 ; teacher 2 0 ; room 0 ; classes 1 ; lesson 0 0 0 0 0 ;".split(" ");
        String[] others = {"grid", "subject", "teacher", "room", "classes", "lesson", "x", "subjec", "subjects", ";",
            "0", "$", "G"};
        String[] also = new String[tokens.length];
        also[7] = "subject";
        // a number in place of the semicolon would be another subject of the teacher
        also[10] = "0";
        also[11] = "teacher";
        also[14] = "room";
        for (int i = 0; i < tokens.length; i++) {
            for (String other : others) {
                boolean isNumberForNumber = other.equals("0") && Character.isDigit(tokens[i].charAt(0));
                if (other.equals(tokens[i]) || isNumberForNumber || other.equals(also[i])) {
                    continue;
                }
                String before = String.join(" ", java.util.Arrays.copyOf(tokens, i)) + (i > 0 ? " " : "");
                String after = " " + String.join(" ", java.util.Arrays.copyOfRange(tokens, i + 1, tokens.length));
                schoolError(before + other + after, 1, before.length());
            }
        }
        marked("grid 1 2; subject 0; subject 0; teacher 2 0 1 ^$", 1);
        marked("grid 1 2; subject 0; teacher ^; room 0; classes 1;", 1);
        marked("grid 1 2; subject 0; teacher 2 0; room 0; classes 1; ^grid 1 2;", 1);
        marked("grid 1 2; subject 0; teacher 2 0; room 0; classes 1; ^subject 0;", 1);
        marked("grid 1 2; subject 0; teacher 2 0; room 0; classes 1; ^teacher 0 0;", 1);
        marked("grid 1 2; subject 0; teacher 2 0; room 0; classes 1; lesson 0 0 0 0 0; ^classes 1;", 1);
    }

    /** "Blanks (byte 32) and line feeds (byte 10) may stand before, between and after tokens." */
    private static void whichBytesMayStand() {
        for (int b = 0; b < 256; b++) {
            char c = (char) b;
            boolean isBlank = b == 32 || b == 10;
            boolean isDigit = c >= '0' && c <= '9';
            outcome(c + "grid 1 2;" + SMALL_TAIL, isBlank, 1, 0);
            outcome("grid 1 2;" + c + SMALL_TAIL, isBlank, 1, 9);
            outcome("grid 1 2;" + SMALL_TAIL + c, isBlank, 1, 9 + SMALL_TAIL.length());
            // a digit before 1 makes it a number that is too large, but for 0
            outcome("grid" + c + "1 2;" + SMALL_TAIL, isBlank || b == '0', isDigit ? 2 : 1, isLetter(c) ? 0 : 4);
            outcome("grid 1 2" + c + ";" + SMALL_TAIL, isBlank, isDigit ? 2 : 1, isDigit ? 7 : b == ';' ? 9 : 8);
            outcome("grid 1" + c + "2;" + SMALL_TAIL, isBlank, isDigit ? 2 : 1, isDigit ? 5 : 6);
            SubstituteDesk desk = new SubstituteDesk();
            int got = Check.script(desk, "all" + c + ";");
            if (isBlank) {
                Check.same("script with the byte " + b, got, 1);
            } else {
                error(desk, "script with the byte " + b, got, 1, isLetter(c) ? 0 : b == ';' ? 4 : 3);
            }
        }
    }

    private static void outcome(String text, boolean isCorrect, int code, int position) {
        if (isCorrect) {
            correct(text, 0);
        } else {
            schoolError(text, code, position);
        }
    }

    /** Numbers at and beside both ends of a range; the texts end after the number's statement or go on correctly. */
    private static void range(String before, int least, int greatest, String after) {
        for (int number : new int[] {least - 1, least, greatest, greatest + 1}) {
            if (number < 0) {
                schoolError(before + number + after, 1, before.length());
                continue;
            }
            SubstituteDesk desk = new SubstituteDesk();
            int got = Check.parse(desk, before + number + after);
            if (number < least || number > greatest) {
                error(desk, before + number + after, got, 2, before.length());
            } else {
                Check.isTrue(before + number + after + " is correct", got >= 0);
            }
        }
    }

    private static void ranges() {
        range("grid ", 1, 5, " 6;" + SMALL_TAIL);
        range("grid 5 ", 1, 6, ";" + SMALL_TAIL);
        range("grid 1 1; subject ", 0, 3, "; teacher 0 0; room 0; classes 1;");
        range("grid 1 1; subject 3; subject ", 0, 3, "; teacher 0 0; room 0; classes 1;");
        range("grid 1 1; subject 0; teacher ", 0, 9, " 0; room 0; classes 1;");
        range("grid 1 1; subject 0; teacher 9 ", 0, 0, "; room 0; classes 1;");
        range("grid 1 1; subject 0; subject 0; teacher 9 ", 0, 1, "; room 0; classes 1;");
        range("grid 1 1;" + "subject 0;".repeat(6) + "teacher 9 ", 0, 5, "; room 0; classes 1;");
        range("grid 1 1; subject 0; teacher 0 0; room ", 0, 3, "; classes 1;");
        range("grid 1 1; subject 0; teacher 0 0; room 0; room ", 0, 3, "; classes 1;");
        range("grid 1 1; subject 0; teacher 0 0; room 0; classes ", 1, 6, ";");
    }

    /** "also a slot, class, subject, teacher or room that does not exist" */
    private static void rangesOfLessons() {
        int[][] grids = {{1, 1}, {1, 2}, {1, 6}, {2, 1}, {2, 3}, {5, 1}, {5, 6}};
        for (int[] grid : grids) {
            range("grid " + grid[0] + " " + grid[1] + ";" + SMALL_TAIL + "lesson ", 0, grid[0] * grid[1] - 1,
                    " 0 0 0 0;");
        }
        String tail = "lesson 0 ";
        for (int number = 1; number <= 6; number++) {
            range("grid 1 1;subject 0;teacher 0 0;room 0;classes " + number + ";" + tail, 0, number - 1, " 0 0 0;");
            String subjects = "subject 0;".repeat(number);
            String skills = " 0 1 2 3 4 5".substring(0, 2 * number);
            range("grid 1 1;" + subjects + "teacher 0" + skills + ";room 0;classes 1;" + tail + "0 ", 0, number - 1,
                    " 0 0;");
            range("grid 1 1;subject 0;teacher 0 0;" + "room 0;".repeat(number) + "classes 1;" + tail + "0 0 0 ", 0,
                    number - 1, ";");
        }
        for (int number = 1; number <= 8; number++) {
            range("grid 1 1;subject 0;" + "teacher 0 0;".repeat(number) + "room 0;classes 1;" + tail + "0 0 ", 0,
                    number - 1, " 0;");
        }
    }

    /** Numbers that would be in the range if they wrapped around are out of it; zeros before do not matter. */
    private static void longNumbers() {
        String[] large = {"30", "100", "256", "65536", "65537", "999999", "1000000", "1000001", "2147483647", "2147483648",
            "4294967295", "4294967296", "4294967297", "4294967298", "18446744073709551616", "18446744073709551617",
            "9".repeat(800), "1" + "0".repeat(800)};
        for (String number : large) {
            schoolError("grid " + number + " 1;", 2, 5);
            schoolError("grid 5 " + number + ";", 2, 7);
            schoolError("grid 5 6;" + SMALL_TAIL + "lesson " + number, 2, 9 + SMALL_TAIL.length() + 7);
        }
        correct("grid " + "0".repeat(800) + "5 6;" + SMALL_TAIL, 0);
        schoolError("grid " + "0".repeat(800) + "6 6;" + SMALL_TAIL, 2, 5);
        schoolError("grid " + "0".repeat(800) + " 6;" + SMALL_TAIL, 2, 5);
    }

    /** "1 to 6 statements "subject K"", "1 to 8 statements "teacher", "1 to 6 statements "room K"", and code 5 */
    private static void statementsTooFewOrTooMany() {
        for (int number = 0; number <= 9; number++) {
            counted("grid 1 1;", "subject 0;", number, 6, "teacher 0 0;room 0;classes 1;");
            counted("grid 1 1;subject 0;", "teacher 0 0;", number, 8, "room 0;classes 1;");
            counted("grid 1 1;subject 0;teacher 0 0;", "room 0;", number, 6, "classes 1;");
        }
    }

    private static void counted(String before, String statement, int number, int most, String after) {
        String text = before + statement.repeat(number) + after;
        if (number == 0) {
            schoolError(text, 1, before.length());
        } else if (number > most) {
            schoolError(text, 5, before.length() + most * statement.length());
        } else {
            correct(text, 0);
        }
    }

    /** "only where such a statement could stand if there were fewer" */
    private static void tooManyOnlyWhereOneCouldStand() {
        String subjects = "grid 5 6;" + "subject 0;".repeat(6);
        String teachers = subjects + "teacher 0 0;".repeat(8);
        String rooms = teachers + "room 0;".repeat(6);
        marked(subjects + "^subject", 5);
        marked(subjects + "^subject $", 5);
        marked(subjects.substring(0, subjects.length() - 1) + " ^subject 0;", 1);
        marked(subjects + "^room 0;", 1);
        marked(subjects + "^teachers 0 0;", 1);
        marked(teachers + "^teacher", 5);
        marked(teachers + "^teacher 10", 5);
        marked(teachers + "^subject 0;", 1);
        marked(teachers.substring(0, teachers.length() - 1) + " ^teacher 0 0;", 1);
        marked(teachers + "^classes 1;", 1);
        marked(rooms + "^room", 5);
        marked(rooms + "^room 4;", 5);
        marked(rooms + "^subject 0;", 1);
        marked(rooms + "^teacher 0 0;", 1);
        marked(rooms.substring(0, rooms.length() - 1) + " ^room 0;", 1);
        marked(rooms + "^lesson 0 0 0 0 0;", 1);
        marked(rooms + "classes 6;^room 0;", 1);
        marked(lessons(40) + "^lesson", 5);
        marked(lessons(40) + "^lesson 99", 5);
        marked(lessons(40).substring(0, lessons(40).length() - 1) + " ^lesson 29 0 0 0 0;", 1);
        marked(lessons(40) + "^lessons", 1);
        marked(lessons(39) + "lesson ^30", 2);
        marked(lessons(40) + "^classes 1;", 1);
    }

    /** "whose class, teacher or room has a lesson in that slot already": not in the slots beside it. */
    private static void occupiedInTheSlotAlone() {
        String head = "grid 2 3;subject 0;teacher 0 0;teacher 0 0;room 0;room 0;classes 2;lesson 2 0 0 0 0;";
        for (int slot = 0; slot < 6; slot++) {
            String lesson = head + "lesson " + slot;
            if (slot == 2) {
                marked(lesson + " ^0 0 1 1;", 3);
                marked(lesson + " 1 0 ^0 1;", 3);
                marked(lesson + " 1 0 1 ^0;", 3);
                marked(lesson + " ^0 0 0 0;", 3);
                marked(lesson + " 1 0 ^0 0;", 3);
            } else {
                correct(lesson + " 0 0 0 0;", 2);
            }
            correct(lesson + " 1 0 1 1;", 2);
        }
    }

    /** "a subject that a teacher has already" */
    private static void repeatedSubjects() {
        String head = "grid 1 1;" + "subject 0;".repeat(6);
        for (int again = 0; again < 6; again++) {
            marked(head + "teacher 0 0 1 2 3 4 5 ^" + again, 3);
        }
        marked(head + "teacher 0 0 1 2 3 4 5 ^6", 2);
        marked(head + "teacher 0 5 ^5", 3);
        marked(head + "teacher 0 5 0 ^5", 3);
        marked(head + "teacher 0 0 ^00", 3);
        correct(head + "teacher 0 5 4 3 2 1 0;teacher 0 5;room 0;classes 1;", 0);
    }

    /** "the T of a lesson who is not qualified for its subject; the R of a lesson that is of another kind" */
    private static void qualifiedAndOfTheKind() {
        String head = "grid 1 1;" + "subject 0;subject 1;subject 2;subject 3;subject 3;subject 3;"
                + "teacher 0 0;teacher 0 5;teacher 0 0 1 2 3 4 5;room 0;room 1;room 2;room 3;classes 1;lesson 0 0 ";
        for (int subject = 0; subject < 6; subject++) {
            String lesson = head + subject;
            String itsRoom = " " + Math.min(subject, 3) + ";";
            qualified(lesson + " ", "0" + itsRoom, subject == 0);
            qualified(lesson + " ", "1" + itsRoom, subject == 5);
            qualified(lesson + " ", "2" + itsRoom, true);
            for (int room = 0; room < 4; room++) {
                if (room == Math.min(subject, 3)) {
                    correct(lesson + " 2 " + room + ";", 1);
                } else {
                    marked(lesson + " 2 ^" + room + ";", 4);
                }
            }
        }
    }

    private static void qualified(String before, String teacherAndRoom, boolean isQualified) {
        if (isQualified) {
            correct(before + teacherAndRoom, 1);
        } else {
            schoolError(before + teacherAndRoom, 4, before.length());
        }
    }

    /** "the codes are, at one token the lowest one that applies" */
    private static void lowestCodeAtOneToken() {
        String head = "grid 1 2;subject 0;subject 1;teacher 0 0;teacher 0 1;room 0;room 1;classes 2;lesson 0 0 0 0 0;";
        marked(head + "lesson 0 1 1 ^0 1;", 3);
        marked(head + "lesson 1 1 1 ^0 1;", 4);
        marked(head + "lesson 0 1 1 1 ^0;", 3);
        marked(head + "lesson 1 1 1 1 ^0;", 4);
        marked(head + "lesson 0 ^2 0 0 0;", 2);
        marked(head + "lesson 0 1 0 ^2 0;", 2);
        marked(head + "lesson 0 1 1 1 ^2;", 2);
        marked(head + "lesson 0 ^x 0 0 0;", 1);
    }

    /** "The first token with an error counts" */
    private static void firstTokenCounts() {
        String head = "grid 1 2;subject 0;subject 1;teacher 0 0;teacher 0 1;room 0;room 1;classes 2;lesson 0 0 0 0 0;";
        marked(head + "lesson ^2 2 2 2 2", 2);
        marked(head + "lesson 0 ^0 2 0 0", 3);
        marked(head + "lesson 0 1 ^2 0 0", 2);
        marked(head + "lesson 0 1 1 ^0 0", 3);
        marked(head + "lesson 1 1 1 ^0 0", 4);
        marked(head + "lesson 1 1 1 1 ^0 x", 4);
        marked(head + "lesson 1 1 1 1 1 ^x $", 1);
        marked("grid ^0 0; x", 2);
        marked("grid 1 ^0; x", 2);
        marked("grid 1 1 ^1; subject 9", 1);
    }
}
