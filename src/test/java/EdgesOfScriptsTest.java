/** Promise 5 and the script texts of section 6: each boundary that a sentence names, and what lies beside it. */
public final class EdgesOfScriptsTest {
    private static final int NONE = SubstituteDesk.NONE;
    /** 2 days of 2 periods, 3 teachers, 3 rooms, 2 classes, 3 lessons. */
    private static final String SCHOOL = "grid 2 2; subject 0; subject 1; teacher 1 0; teacher 1 0; teacher 1 1; "
            + "room 0; room 0; room 1; classes 2; lesson 0 0 0 0 0; lesson 1 0 0 1 0; lesson 0 1 1 2 2;";
    private static final String[] TWO_NUMBERS = {"absent", "present", "cover", "watch", "swap", "move", "room"};
    private static final String[] ONE_NUMBER = {"repair", "open"};
    private static final String[] STARTS = {"", "open 0;", "absent 0 0;absent 1 1;", "open 2;watch 2 1;",
        "open 0;open 1;open 2;", "absent 2 0;move 2 3;room 0 1;", "open 0;watch 0 1;"};

    public static void main(String[] args) {
        numberOfSteps();
        stepsThatAreComplete();
        numbersTooFewOrTooMany();
        wordsThatAreNone();
        digits();
        likeTheMethods();
        positionOfTheWord();
        firstThatIsMet();
        executedAtTheSemicolon();
        oneChange();
        wrongIsNoChange();
        wrongAmongTen();
        Check.end();
    }

    private static void wrong(String start, String marked, int code) {
        SubstituteDesk desk = Check.school(SCHOOL);
        Check.isTrue("the start is right: " + start, Check.script(desk, start) >= 0);
        int at = marked.indexOf('^');
        String text = marked.substring(0, at) + marked.substring(at + 1);
        String before = Check.state(desk);
        Check.same("script " + text, Check.script(desk, text), NONE);
        Check.same("errorCode of " + text, desk.errorCode(), code);
        Check.same("errorPosition of " + text, desk.errorPosition(), at);
        Check.same("the state stays after " + text, Check.state(desk), before);
        Check.same("undoDepth after " + text, desk.undoDepth(), 1);
    }

    private static void right(String text, int steps) {
        SubstituteDesk desk = Check.school(SCHOOL);
        Check.same("script " + text, Check.script(desk, text), steps);
        Check.same("errorCode of " + text, desk.errorCode(), 0);
        Check.same("errorPosition of " + text, desk.errorPosition(), NONE);
        Check.same("undoDepth after " + text, desk.undoDepth(), 1);
    }

    /** "A text without tokens has no steps", and the longest text has 225 steps of four characters. */
    private static void numberOfSteps() {
        right("", 0);
        right(" ", 0);
        right("\n", 0);
        right(" ".repeat(900), 0);
        for (int steps : new int[] {1, 2, 3, 224, 225}) {
            right("all;".repeat(steps), steps);
        }
        right("\n all \n;\n\nall;  ", 2);
        right("open 0;repair 0;open 1;repair 1;open 2;repair 2;", 6);
    }

    private static void stepsThatAreComplete() {
        right("absent 2 1;", 1);
        right("present 2 1;", 1);
        right("open 0;cover 0 1;", 2);
        right("open 2;watch 2 1;", 2);
        right("swap 0 1;", 1);
        right("swap 1 0;", 1);
        right("move 2 3;", 1);
        right("room 0 1;", 1);
        right("open 2;repair 2;", 2);
        right("open 2;", 1);
        right("all;", 1);
        right("move2 3;", 1);
        right("move\n2\n3\n;\n", 1);
    }

    private static void numbersTooFewOrTooMany() {
        for (String word : TWO_NUMBERS) {
            wrong("", word + "^;", 1);
            wrong("", word + " 0^;", 1);
            wrong("", word + " 0 1 ^1;", 1);
            wrong("", word + "^", 1);
            wrong("", word + " ^", 1);
            wrong("", word + " 0 ^", 1);
            wrong("", word + " 0 1 \n^", 1);
            wrong("", word + " ^all;", 1);
            wrong("", word + " 0 ^all;", 1);
            wrong("", word + " 0 1 ^all;", 1);
            wrong("", word + " ^-1 1;", 1);
            wrong("", word + " 0^,1;", 1);
        }
        for (String word : ONE_NUMBER) {
            wrong("", word + "^;", 1);
            wrong("", word + " 0 ^0;", 1);
            wrong("", word + "^", 1);
            wrong("", word + " 0  ^", 1);
            wrong("", word + " ^all;", 1);
            wrong("", word + " 0 ^all;", 1);
            wrong("", word + " 0 ^" + word + " 0;", 1);
        }
        wrong("", "all ^0;", 1);
        wrong("", "all ^all;", 1);
        wrong("", "all^", 1);
        wrong("", "all  ^", 1);
        wrong("", "all;^;", 1);
        wrong("", "^;", 1);
        wrong("", " \n^;", 1);
        wrong("", "^0;", 1);
        wrong("", "all; ^0 0;", 1);
    }

    private static void wordsThatAreNone() {
        String[] none = {"a", "al", "alls", "ball", "absen", "absents", "presen", "presents", "cove", "covers", "watc",
            "watchs", "repai", "repairs", "repairall", "swa", "swaps", "mov", "moves", "roo", "rooms", "ope", "opens",
            "supervise", "exchange", "setroom", "setabsent", "reopen", "reset", "undo", "grid", "subject", "teacher",
            "classes", "lesson", "script", "z", "allall"};
        for (String word : none) {
            wrong("", "^" + word + ";", 1);
            wrong("", "^" + word + " 0;", 1);
            wrong("", "all;\n^" + word + " 0 0;", 1);
        }
        wrong("", "^All;", 1);
        wrong("", "^aLL;", 1);
    }

    /** "a number of more than four digits" */
    private static void digits() {
        for (String number : new String[] {"2", "02", "002", "0002"}) {
            right("open " + number + ";", 1);
            right("absent " + number + " 0;", 1);
            right("move 2 " + number + ";", 1);
        }
        for (String number : new String[] {"3", "10", "256", "999", "9999", "0003"}) {
            wrong("", "^open " + number + ";", 6);
            wrong("", "^repair " + number + ";", 6);
            wrong("", "^absent " + number + " 0;", 6);
        }
        for (String number : new String[] {"00002", "00000", "10000", "99999", "65536", "4294967296", "0".repeat(800)}) {
            for (String word : ONE_NUMBER) {
                wrong("", word + " ^" + number + ";", 1);
            }
            for (String word : TWO_NUMBERS) {
                wrong("", word + " ^" + number + " 0;", 1);
                wrong("", word + " 0 ^" + number + ";", 1);
            }
        }
    }

    /** "a step for which the corresponding method would throw": each step with numbers in and beside the ranges. */
    private static void likeTheMethods() {
        for (String start : STARTS) {
            for (int a = 0; a <= 4; a++) {
                for (String word : ONE_NUMBER) {
                    likeTheMethod(start, word, a, NONE);
                }
                for (int b = 0; b <= 5; b++) {
                    for (String word : TWO_NUMBERS) {
                        likeTheMethod(start, word, a, b);
                    }
                }
            }
            likeTheMethod(start, "all", NONE, NONE);
        }
    }

    private static void likeTheMethod(String start, String word, int a, int b) {
        SubstituteDesk byMethod = Check.school(SCHOOL);
        SubstituteDesk byScript = Check.school(SCHOOL);
        Check.isTrue("the start is right: " + start, Check.script(byMethod, start) == Check.script(byScript, start));
        boolean isDone = isDone(byMethod, word, a, b);
        String step = word + (a == NONE ? "" : " " + a) + (b == NONE ? "" : " " + b) + ";";
        Check.same(start + " then " + step, Check.script(byScript, step), isDone ? 1 : NONE);
        Check.same(start + " then " + step + ": errorCode", byScript.errorCode(), isDone ? 0 : 6);
        Check.same(start + " then " + step + ": errorPosition", byScript.errorPosition(), isDone ? NONE : 0);
        Check.same(start + " then " + step + ": state", Check.state(byScript), Check.state(byMethod));
        Check.same(start + " then " + step + ": undoDepth", byScript.undoDepth(), byMethod.undoDepth());
    }

    private static boolean isDone(SubstituteDesk desk, String word, int a, int b) {
        try {
            switch (word) {
                case "absent" -> desk.setAbsent(a, b, true);
                case "present" -> desk.setAbsent(a, b, false);
                case "cover" -> desk.cover(a, b);
                case "watch" -> desk.supervise(a, b);
                case "swap" -> desk.exchange(a, b);
                case "move" -> desk.move(a, b);
                case "room" -> desk.setRoom(a, b);
                case "repair" -> desk.repair(a);
                case "open" -> desk.reopen(a);
                default -> desk.repairAll();
            }
            return true;
        } catch (IndexOutOfBoundsException | IllegalStateException e) {
            return false;
        }
    }

    /** "with the code 6, at the first byte of the word of a step" */
    private static void positionOfTheWord() {
        wrong("", "^open 3;", 6);
        wrong("", " ^open 3;", 6);
        wrong("", "\n\n^open\n3\n;\n", 6);
        wrong("", "open 0;open 1;open 2;^open 2;all;", 6);
        wrong("", "all;all;all; ^swap 0 2;", 6);
        String blanks = " ".repeat(893);
        wrong("", blanks + "^open 3;", 6);
        wrong("", "^repair 0;", 6);
        wrong("open 0;open 2;absent 1 0;", "^cover 2 0;", 6);
    }

    /** "The first of these that is met while reading counts." */
    private static void firstThatIsMet() {
        wrong("", "open 9 ^9;", 1);
        wrong("", "open 9^", 1);
        wrong("", "open 9 ^x;", 1);
        wrong("", "^open 9; x", 6);
        wrong("", "^open 9;;", 6);
        wrong("", "^open 9; open 8;", 6);
        wrong("", "open 9 ^open 9;", 1);
        wrong("", "swap 9 ^99999;", 1);
        wrong("", "open 0; ^open 0; open ;", 6);
        wrong("", "open 0; open ^; open 0;", 1);
    }

    /** "executes each step when its semicolon has been read" */
    private static void executedAtTheSemicolon() {
        wrong("", "open 0;^open 0;", 6);
        wrong("", "open 0;open 0^", 1);
        right("open 0;cover 0 1;open 0;watch 0 1;open 0;", 5);
        right("absent 0 0;all;present 0 0;", 3);
        SubstituteDesk desk = Check.school(SCHOOL);
        Check.script(desk, "open 0;watch 0 1;cover 0 0;move 2 1;");
        Check.same("the last of each stands", desk.lesson(0, 3) * 10 + desk.lesson(2, 0), 1);
        wrong("", "absent 0 0;move 0 3;^repair 2;", 6);
        wrong("", "absent 0 0;absent 1 1;present 2 0;all;swap 0 1;room 1 1;open 2;watch 2 2;^cover 2 3;", 6);
    }

    /** "executes it as one change", of each of which undo is one */
    private static void oneChange() {
        SubstituteDesk desk = Check.school(SCHOOL);
        String first = Check.state(desk);
        Check.script(desk, "absent 0 0;all;room 1 1;move 2 3;");
        String second = Check.state(desk);
        Check.script(desk, "");
        Check.script(desk, "present 0 0;");
        Check.same("three changes", desk.undoDepth(), 3);
        Check.same("undo", desk.undo(), 2);
        Check.same("the state", Check.state(desk), second);
        Check.same("undo of no steps", desk.undo(), 1);
        Check.same("the state", Check.state(desk), second);
        Check.same("undo of four steps", desk.undo(), 0);
        Check.same("the state", Check.state(desk), first);
    }

    private static void wrongIsNoChange() {
        SubstituteDesk desk = Check.school(SCHOOL);
        String first = Check.state(desk);
        desk.reopen(2);
        Check.script(desk, "open 0;open 1;x");
        Check.script(desk, "x");
        Check.script(desk, "open 2;");
        Check.same("only the reopening can be undone", desk.undoDepth(), 1);
        desk.undo();
        Check.same("the state", Check.state(desk), first);
        Check.script(desk, "open 0;x");
        Check.refused("no change to undo", IllegalStateException.class, desk::undo);
        Check.same("the state", Check.state(desk), first);
    }

    /** A wrong script beside ten changes leaves all ten, and a right one the latest ten. */
    private static void wrongAmongTen() {
        SubstituteDesk desk = Check.school(SCHOOL);
        String first = Check.state(desk);
        desk.move(2, 3);
        String second = Check.state(desk);
        for (int i = 0; i < 9; i++) {
            desk.setRoom(1, 1 - desk.lesson(1, 4));
        }
        String last = Check.state(desk);
        Check.same("wrong", Check.script(desk, "open 0;open 0;"), NONE);
        Check.same("the state", Check.state(desk), last);
        for (int k = 9; k >= 0; k--) {
            Check.same("undo", desk.undo(), k);
        }
        Check.same("the first state", Check.state(desk), first);
        desk.move(2, 3);
        for (int i = 0; i < 9; i++) {
            desk.setRoom(1, 1 - desk.lesson(1, 4));
        }
        Check.same("right", Check.script(desk, "open 0;"), 1);
        Check.same("ten", desk.undoDepth(), 10);
        for (int k = 9; k >= 0; k--) {
            Check.same("undo", desk.undo(), k);
        }
        Check.same("the second state", Check.state(desk), second);
    }
}
