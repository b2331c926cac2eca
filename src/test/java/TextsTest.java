/** Promises 2 to 7: the text buffer, school texts, script texts and their errors. */
public final class TextsTest {
    private static final String HEAD = "grid 2 3; subject 0; subject 1; teacher 2 0; teacher 3 0 1; room 0; room 1; "
            + "classes 2; ";

    public static void main(String[] args) {
        bufferGrowsAndShrinks();
        bufferIsBounded();
        schoolReplacesTheOld();
        wrongSchoolChangesNothing();
        placesOfTokens();
        numbers();
        occupied();
        unqualified();
        tooMany();
        blanks();
        scripts();
        scriptErrors();
        scriptRunsStepByStep();
        latestErrorCounts();
        Check.end();
    }

    private static void error(String text, int code, int position) {
        SubstituteDesk desk = new SubstituteDesk();
        Check.same("parseSchool of " + text, Check.parse(desk, text), SubstituteDesk.NONE);
        Check.same("errorCode of " + text, desk.errorCode(), code);
        Check.same("errorPosition of " + text, desk.errorPosition(), position);
    }

    /** The error stands where the mark ^ stands in the text. */
    private static void marked(String text, int code) {
        int at = text.indexOf('^');
        error(text.substring(0, at) + text.substring(at + 1), code, at);
    }

    private static void correct(String text, int lessons) {
        SubstituteDesk desk = new SubstituteDesk();
        Check.same("parseSchool of " + text, Check.parse(desk, text), lessons);
        Check.same("errorCode of " + text, desk.errorCode(), 0);
        Check.same("errorPosition of " + text, desk.errorPosition(), SubstituteDesk.NONE);
    }

    private static void scriptError(SubstituteDesk desk, String marked, int code) {
        int at = marked.indexOf('^');
        String text = marked.substring(0, at) + marked.substring(at + 1);
        String before = Check.state(desk);
        int depth = desk.undoDepth();
        Check.same("runScript of " + text, Check.script(desk, text), SubstituteDesk.NONE);
        Check.same("errorCode of " + text, desk.errorCode(), code);
        Check.same("errorPosition of " + text, desk.errorPosition(), at);
        Check.same("the state after " + text, Check.state(desk), before);
        Check.same("undoDepth after " + text, desk.undoDepth(), depth);
        Check.same("the buffer after " + text, desk.truncateText(0), 0);
        Check.refused("the buffer is empty after " + text, IllegalArgumentException.class, () -> desk.truncateText(1));
    }

    private static void bufferGrowsAndShrinks() {
        SubstituteDesk desk = new SubstituteDesk();
        Check.same("appendText", desk.appendText(0x67726964, 0x20312031, 0x3b737562, 0x6a656374, 0x2030ff00), 20);
        Check.same("parseSchool", desk.parseSchool(), -1);
        Check.same("byte 255 begins no token", desk.errorPosition() * 10 + desk.errorCode(), 181);
        Check.same("the buffer is empty then", desk.appendText(0, 0, 0, 0, 0), 20);
        Check.same("appendText", desk.appendText(-1, -1, -1, -1, -1), 40);
        Check.same("truncateText(40)", desk.truncateText(40), 40);
        Check.refused("truncateText(41)", IllegalArgumentException.class, () -> desk.truncateText(41));
        Check.refused("truncateText(-1)", IllegalArgumentException.class, () -> desk.truncateText(-1));
        Check.same("truncateText(3)", desk.truncateText(3), 3);
        Check.same("appendText", desk.appendText(0, 0, 0, 0, 0), 23);
        Check.same("truncateText(0)", desk.truncateText(0), 0);
        Check.refused("truncateText(1)", IllegalArgumentException.class, () -> desk.truncateText(1));
        Check.refused("truncateText(min)", IllegalArgumentException.class,
                () -> desk.truncateText(Integer.MIN_VALUE));
    }

    private static void bufferIsBounded() {
        SubstituteDesk desk = new SubstituteDesk();
        for (int i = 1; i <= 45; i++) {
            Check.same("appendText " + i, desk.appendText(0, 0, 0, 0, 0), 20 * i);
        }
        Check.refused("appendText to 920", IllegalStateException.class, () -> desk.appendText(1, 1, 1, 1, 1));
        Check.same("truncateText(881)", desk.truncateText(881), 881);
        Check.refused("appendText to 901", IllegalStateException.class, () -> desk.appendText(1, 1, 1, 1, 1));
        Check.same("truncateText(880)", desk.truncateText(880), 880);
        Check.same("appendText to 900", desk.appendText(1, 1, 1, 1, 1), 900);
    }

    private static void schoolReplacesTheOld() {
        SubstituteDesk desk = new SubstituteDesk();
        desk.setAbsent(0, 0, true);
        desk.writeReport(0);
        Check.same("lessons", Check.parse(desk, HEAD + "lesson 5 1 1 1 1; lesson 0 0 0 0 0;"), 2);
        int[] due = {2, 3, 2, 2, 2, 2, 2, 0, 0, 0};
        for (int what = 0; what < due.length; what++) {
            Check.same("count(" + what + ")", desk.count(what), due[what]);
        }
        Check.same("slot", desk.lesson(0, 0), 5);
        Check.same("class", desk.lesson(0, 1), 1);
        Check.same("subject", desk.lesson(0, 2), 1);
        Check.same("teacher", desk.lesson(0, 3), 1);
        Check.same("room", desk.lesson(0, 4), 1);
        Check.same("most", desk.teacher(1, 0), 3);
        Check.same("subjects", desk.teacher(1, 1), 3);
        Check.same("nobody is absent", desk.teacher(0, 2), 0);
        Check.same("nothing can be undone", desk.undoDepth(), 0);
        Check.same("the report stays", desk.reportByte(2), (int) '?');
        correct("grid 1 1; subject 3; teacher 0 0; room 3; classes 1;", 0);
        correct("grid 5 6; subject 3; teacher 9 0; room 3; classes 6; lesson 29 5 0 0 0;", 1);
    }

    private static void wrongSchoolChangesNothing() {
        SubstituteDesk desk = new SubstituteDesk();
        desk.setAbsent(1, 0, true);
        String before = Check.state(desk);
        Check.same("a late error", Check.parse(desk, HEAD + "lesson 0 0 0 0 0; lesson 0 0 0 0 0;"), -1);
        Check.same("the state", Check.state(desk), before);
        Check.same("undoDepth", desk.undoDepth(), 1);
        Check.same("undo", desk.undo(), 0);
        Check.same("nobody is absent", desk.teacher(1, 2), 0);
        Check.refused("the buffer is empty", IllegalArgumentException.class, () -> desk.truncateText(1));
    }

    private static void placesOfTokens() {
        marked("^", 1);
        marked("  \n ^", 1);
        marked("^1 2;", 1);
        marked("^;", 1);
        marked("^gri 1 2;", 1);
        marked("^gridd 1 2;", 1);
        marked("^Grid 1 2;", 1);
        marked("grid^", 1);
        marked("grid ^;", 1);
        marked("grid 1^;", 1);
        marked("grid 1 2 ^3;", 1);
        marked("grid 1 2; ^teacher 1 0;", 1);
        marked("grid 1 2; ^grid 1 2;", 1);
        marked("grid 1 2; subject 0; ^room 0;", 1);
        marked("grid 1 2; subject 0; ^classes 1;", 1);
        marked("grid 1 2; subject 0; teacher 1^; room 0;", 1);
        marked("grid 1 2; subject 0; teacher 1 0; ^subject 0;", 1);
        marked("grid 1 2; subject 0; teacher 1 0; ^classes 1;", 1);
        marked("grid 1 2; subject 0; teacher 1 0; room 0; ^teacher 1 0;", 1);
        marked("grid 1 2; subject 0; teacher 1 0; room 0; ^lesson 0 0 0 0 0;", 1);
        marked("grid 1 2; subject 0; teacher 1 0; room 0;  ^", 1);
        marked("grid 1 2; subject 0; teacher 1 0; room 0; classes 1; ^classes 1;", 1);
        marked("grid 1 2; subject 0; teacher 1 0; room 0; classes 1; ^room 0;", 1);
        marked("grid 1 2; subject 0; teacher 1 0; room 0; classes 1; ^;", 1);
        marked("grid 1 2; subject 0; teacher 1 0; room 0; classes 1; lesson 0 0 0 0 0 ^0;", 1);
        marked("grid 1 2; subject 0; teacher 1 0; room 0; classes 1; lesson 0 0 0 0 0 ^", 1);
        marked("grid 1 2; subject 0; teacher 1 0; room 0; classes 1; lesson 0 0 0 0 ^room;", 1);
        marked("grid 1 2; subject 0; teacher 1 0; room 0; classes 1 ^\t;", 1);
        marked("grid ^-1 2;", 1);
        marked("^xrid 1 2;", 1);
        marked("^gridz 1 2;", 1);
        marked("^agrid 1 2;", 1);
        missingSemicolons();
        marked("grid 1 2; subject 0; teacher 1 0; room 0; classes 1; ^lessons 0 0 0 0 0;", 1);
    }

    private static void missingSemicolons() {
        marked("grid 1 2 ^subject 0;", 1);
        marked("grid 1 2; subject 0 ^subject 0; teacher 1 0; room 0; classes 1;", 1);
        marked("grid 1 2; subject 0 ^teacher 1 0;", 1);
        marked("grid 1 2; subject 0; teacher 1 0 ^teacher 1 0; room 0; classes 1;", 1);
        marked("grid 1 2; subject 0; teacher 1 0; room 0 ^room 0; classes 1;", 1);
        marked("grid 1 2; subject 0; teacher 1 0; room 0; classes 1 ^lesson 0 0 0 0 0;", 1);
        marked(HEAD + "lesson 0 0 0 0 0 ^lesson 1 0 0 0 0;", 1);
        marked(HEAD + "lesson 0 0 0 0 0^", 1);
    }

    private static void numbers() {
        marked("grid ^0 2;", 2);
        marked("grid ^6 2;", 2);
        marked("grid 5 ^0;", 2);
        marked("grid 5 ^7;", 2);
        marked("grid ^99999999999999999999 1;", 2);
        marked("grid ^4294967297 1;", 2);
        marked("grid 1 2; subject ^4;", 2);
        marked("grid 1 2; subject 0; teacher ^10 0;", 2);
        marked("grid 1 2; subject 0; teacher 9 ^1;", 2);
        marked("grid 1 2; subject 0; teacher 9 0; room ^4;", 2);
        marked("grid 1 2; subject 0; teacher 9 0; room 0; classes ^0;", 2);
        marked("grid 1 2; subject 0; teacher 9 0; room 0; classes ^7;", 2);
        marked(HEAD + "lesson ^6 0 0 0 0;", 2);
        marked(HEAD + "lesson 5 ^2 0 0 0;", 2);
        marked(HEAD + "lesson 5 0 ^2 0 0;", 2);
        marked(HEAD + "lesson 5 0 0 ^2 0;", 2);
        marked(HEAD + "lesson 5 0 0 0 ^2;", 2);
        correct("grid 00001 0000002; subject 000; teacher 09 0; room 0; classes 01;", 0);
    }

    private static void occupied() {
        marked(HEAD + "lesson 0 0 0 0 0; lesson 0 ^0 1 1 1;", 3);
        marked(HEAD + "lesson 0 0 0 0 0; lesson 0 1 0 ^0 1;", 3);
        // taken counts before not being qualified
        marked(HEAD + "lesson 0 0 0 0 0; lesson 0 1 1 ^0 1;", 3);
        marked(HEAD + "lesson 0 0 0 0 0; lesson 0 1 0 1 ^0;", 3);
        // taken counts before being of another kind
        marked(HEAD + "lesson 0 0 0 0 0; lesson 0 1 1 1 ^0;", 3);
        marked("grid 1 2; subject 0; subject 0; teacher 1 1 0 ^1;", 3);
        correct(HEAD + "lesson 0 0 0 0 0; lesson 1 0 0 0 0;", 2);
        correct(HEAD + "lesson 0 0 0 0 0; lesson 0 1 1 1 1;", 2);
    }

    private static void unqualified() {
        marked(HEAD + "lesson 0 0 1 ^0 1;", 4);
        marked(HEAD + "lesson 0 0 1 1 ^0;", 4);
        marked(HEAD + "lesson 0 0 0 0 ^1;", 4);
    }

    private static void tooMany() {
        String subjects = "grid 5 6;" + "subject 0;".repeat(6);
        marked(subjects + " ^subject 0;", 5);
        marked(subjects + " ^subjects 0;", 1);
        String teachers = subjects + "teacher 1 0 1 2 3 4 5;".repeat(8);
        marked(teachers + " ^teacher", 5);
        marked(teachers + " ^subject 0;", 1);
        String rooms = teachers + "room 0;".repeat(6);
        marked(rooms + " ^room 0;", 5);
        marked(rooms + " ^teacher 1 0;", 1);
        correct(rooms + "classes 6;", 0);
        marked("grid 1 1; subject 0; subject 0; subject 0; subject 0; subject 0; subject 0; "
                + "teacher 1 0 1 2 3 4 5 ^6;", 2);
        StringBuilder lessons = new StringBuilder("grid5 6;subject0;teacher1 0;teacher1 0;room0;room0;classes2;");
        for (int i = 0; i < 40; i++) {
            lessons.append("lesson").append(i / 2).append(' ').append(i % 2).append(" 0 ").append(i % 2).append(' ')
                    .append(i % 2).append(';');
        }
        correct(lessons.toString(), 40);
        marked(lessons + "^lesson 29 0 0 0 0;", 5);
        marked(lessons + "^lesson", 5);
        marked(lessons + "^room 0;", 1);
    }

    private static void blanks() {
        correct("\n\n grid1 2 ;subject\n0; teacher 2 0;room0;classes1;lesson0 0 0 0 0;\n ", 1);
        marked("grid1 2;subject0;teacher2 0;room0;classes1;lesson0 0 0 0 ^0x;".replace("^0x", "0^x"), 1);
        marked("grid 1 2;^\r\nsubject 0;", 1);
        marked("grid 1 2;\n^" + (char) 0, 1);
        marked("grid 1 2;\n^" + (char) 255, 1);
        marked("gri^d 1 2;".replace("gri^d", "^gri d"), 1);
    }

    private static void scripts() {
        SubstituteDesk desk = Check.school(HEAD + "lesson 0 0 0 0 0; lesson 1 0 0 1 0; lesson 0 1 1 1 1;");
        Check.same("no steps", Check.script(desk, ""), 0);
        Check.same("no tokens", Check.script(desk, " \n "), 0);
        Check.same("these are changes", desk.undoDepth(), 2);
        Check.same("absent", Check.script(desk, "absent 1 0;"), 1);
        Check.same("open lessons", desk.count(7), 2);
        Check.same("all and nothing", Check.script(desk, "present 1 0;repair 1;all;all;all;"), 5);
        Check.same("open lessons", desk.count(7), 0);
        Check.same("least load", desk.lesson(1, 3), 1);
        Check.same("watch", Check.script(desk, "open 1;watch 1 0;open 1;\ncover 0001 0 ;"), 4);
        Check.same("swap", Check.script(desk, "swap 0 1;"), 1);
        Check.same("slot", desk.lesson(0, 0), 1);
        Check.same("move", Check.script(desk, "move 0 5;"), 1);
        Check.same("slot", desk.lesson(0, 0), 5);
        Check.same("the script is one change", desk.undoDepth(), 7);
        desk.undo();
        desk.undo();
        desk.undo();
        Check.same("before the three", desk.lesson(1, 3), 1);
        Check.same("slot", desk.lesson(0, 0), 0);
        SubstituteDesk rooms = Check.school("grid 1 1; subject 2; teacher 1 0; room 2; room 2; classes 1; "
                + "lesson 0 0 0 0 0;");
        Check.same("room", Check.script(rooms, "room 0 1;"), 1);
        Check.same("the room", rooms.lesson(0, 4), 1);
    }

    private static void scriptErrors() {
        SubstituteDesk desk = Check.school(HEAD + "lesson 0 0 0 0 0; lesson 1 0 0 1 0; lesson 0 1 1 1 1;");
        scriptError(desk, "^;", 1);
        scriptError(desk, "^undo;", 1);
        scriptError(desk, "^reset;", 1);
        scriptError(desk, "^exchange 0 1;", 1);
        scriptError(desk, "^7;", 1);
        scriptError(desk, "all ^0;", 1);
        scriptError(desk, "all^", 1);
        scriptError(desk, "all;^$", 1);
        scriptError(desk, "open 0 ^1;", 1);
        scriptError(desk, "open ^;", 1);
        scriptError(desk, "open^", 1);
        scriptError(desk, "open 0  ^", 1);
        scriptError(desk, "open ^00000;", 1);
        scriptError(desk, "absent 0 ^00000;", 1);
        scriptError(desk, "absent 0^;", 1);
        scriptError(desk, "absent 0 0 ^all;", 1);
        scriptError(desk, "^open 9999;", 6);
        scriptError(desk, "^open 3;", 6);
        scriptError(desk, "open 0; ^open 0;", 6);
        scriptError(desk, "open 0;open 1;^cover 2 0;", 6);
        scriptError(desk, "^absent 2 0;", 6);
        scriptError(desk, "^absent 0 2;", 6);
        scriptError(desk, "^present 2 0;", 6);
        scriptError(desk, "^present 0 2;", 6);
        scriptError(desk, "open 0; ^cover 0 2;", 6);
        scriptError(desk, "open 0; ^watch 0 2;", 6);
        scriptError(desk, "^watch 0 0;", 6);
        scriptError(desk, "^repair 0;", 6);
        scriptError(desk, "^repair 3;", 6);
        scriptError(desk, "^swap 0 0;", 6);
        scriptError(desk, "^swap 0 3;", 6);
        scriptError(desk, "^swap 3 0;", 6);
        scriptError(desk, "^move 0 6;", 6);
        scriptError(desk, "^move 0 0;", 6);
        scriptError(desk, "^room 0 2;", 6);
        scriptError(desk, "^room 0 1;", 6);
        // the first that is met while reading: the step is executed at its semicolon
        scriptError(desk, "open 9 ^9;", 1);
        scriptError(desk, "^open 9; x", 6);
    }

    private static void scriptRunsStepByStep() {
        SubstituteDesk desk = new SubstituteDesk();
        Check.same("cover while absent", Check.script(desk, "absent 0 0; repair 0; present 0 0;"), 3);
        Check.same("teacher", desk.lesson(0, 3), 1);
        Check.same("not absent", desk.teacher(0, 2), 0);
        Check.same("undo of all steps", desk.undo(), 0);
        Check.same("teacher", desk.lesson(0, 3), 0);
        StringBuilder many = new StringBuilder();
        for (int i = 0; i < 225; i++) {
            many.append("all;");
        }
        Check.same("225 steps", Check.script(desk, many.toString()), 225);
        Check.same("one change", desk.undoDepth(), 1);
    }

    private static void latestErrorCounts() {
        SubstituteDesk desk = new SubstituteDesk();
        Check.same("none at first", desk.errorCode(), 0);
        Check.same("none at first", desk.errorPosition(), SubstituteDesk.NONE);
        Check.parse(desk, "grid 9");
        Check.same("of the school", desk.errorCode() * 100 + desk.errorPosition(), 205);
        desk.setAbsent(0, 0, true);
        desk.undo();
        Check.same("undo keeps it", desk.errorCode() * 100 + desk.errorPosition(), 205);
        Check.script(desk, "  open 7;");
        Check.same("of the script", desk.errorCode() * 100 + desk.errorPosition(), 602);
        Check.script(desk, "");
        Check.same("none now", desk.errorCode(), 0);
        Check.same("none now", desk.errorPosition(), SubstituteDesk.NONE);
        Check.script(desk, "x");
        Check.parse(desk, "grid 1 2; subject 0; teacher 2 0; room 0; classes 1;");
        Check.same("none now", desk.errorCode(), 0);
        Check.same("none now", desk.errorPosition(), SubstituteDesk.NONE);
    }
}
