import java.lang.reflect.InvocationTargetException;
import java.lang.reflect.Method;
import java.lang.reflect.Modifier;
import java.util.Set;

/** Promises 45 to 48 and sections 7 and 8: each boundary that a sentence names, and what lies beside it. */
public final class EdgesOfReportUndoTest {
    private static final int NONE = SubstituteDesk.NONE;
    private static final String SCHOOL = "grid 2 3;subject 0;subject 1;teacher 9 0;teacher 9 0 1;teacher 9 1;"
            + "room 0;room 0;room 1;classes 3;"
            + "lesson 0 0 0 0 0;lesson 0 1 0 1 1;lesson 1 0 1 2 2;lesson 3 0 0 0 0;lesson 4 1 1 1 2;";
    private static final Set<String> CHANGES = Set.of("setAbsent", "cover", "supervise", "repair", "repairAll",
            "exchange", "move", "setRoom", "reopen", "reset", "runScript");
    private static final Set<String> OTHERS = Set.of("undo", "parseSchool");

    public static void main(String[] args) {
        reportOfEachSize();
        reportOfEachState();
        reportOfTheLastNumbers();
        reportByteAtBothEnds();
        reportIsReplaced();
        reportIsNotOfTheState();
        undoneToNothing();
        nineTenEleven();
        tenAgainAndAgain();
        undoThenChange();
        changesThatChangeNothing();
        undoOfEachChange();
        undoBringsAllBack();
        newSchoolIsNotUndone();
        whatThrowsChangesNothing();
        otherCallsAreNoChanges();
        Check.end();
    }

    // ---- promises 45 and 46

    /** One line a day, one place a period, a blank between two of them and a line feed at the end of each line. */
    private static void reportOfEachSize() {
        for (int days = 1; days <= 5; days++) {
            for (int periods = 1; periods <= 6; periods++) {
                SubstituteDesk desk = Check.school("grid " + days + " " + periods
                        + ";subject 0;teacher 0 0;room 0;classes 1;");
                String line = "- ".repeat(periods - 1) + "-\n";
                Check.same("report", Check.report(desk, 0), line.repeat(days));
                Check.same("length", desk.writeReport(0), 2 * days * periods);
                int last = days * periods - 1;
                Check.parse(desk, "grid " + days + " " + periods + ";subject 0;teacher 0 0;room 0;classes 1;lesson "
                        + last + " 0 0 0 0;");
                String lastLine = "- ".repeat(periods - 1) + "0.0\n";
                Check.same("a lesson in the last slot", Check.report(desk, 0), line.repeat(days - 1) + lastLine);
            }
        }
    }

    private static void reportOfEachState() {
        SubstituteDesk desk = Check.school(SCHOOL);
        Check.same("taught", Check.report(desk, 0), "0.0 1.2 -\n0.0 - -\n");
        desk.reopen(2);
        Check.same("open", Check.report(desk, 0), "0.0 1.? -\n0.0 - -\n");
        desk.supervise(2, 0);
        Check.same("supervised", Check.report(desk, 0), "0.0 1.0! -\n0.0 - -\n");
        desk.cover(2, 2);
        desk.move(2, 5);
        desk.exchange(0, 3);
        Check.same("moved and exchanged", Check.report(desk, 0), "0.0 - -\n0.0 - 1.2\n");
        Check.same("a class without lessons", Check.report(desk, 2), "- - -\n- - -\n");
        Check.numbered("writeReport", 3, desk::writeReport);
    }

    private static void reportOfTheLastNumbers() {
        SubstituteDesk desk = Check.school("grid 1 2;" + "subject 0;".repeat(6) + "teacher 9 5;".repeat(8)
                + "room 0;classes 6;lesson 0 5 5 7 0;lesson 1 5 5 6 0;");
        desk.reopen(1);
        desk.supervise(1, 7);
        Check.same("the last of all", Check.report(desk, 5), "5.7 5.7!\n");
        Check.same("another class", Check.report(desk, 4), "- -\n");
    }

    private static void reportByteAtBothEnds() {
        SubstituteDesk desk = Check.school(SCHOOL);
        for (int bad : new int[] {-1, 0, 1, Integer.MIN_VALUE, Integer.MAX_VALUE}) {
            Check.refused("of the empty report", IndexOutOfBoundsException.class, () -> desk.reportByte(bad));
        }
        Check.same("length", desk.writeReport(0), 18);
        Check.same("the first", desk.reportByte(0), (int) '0');
        Check.same("the last", desk.reportByte(17), 10);
        Check.same("the last but one", desk.reportByte(16), (int) '-');
        Check.numbered("reportByte", 18, desk::reportByte);
    }

    private static void reportIsReplaced() {
        SubstituteDesk desk = Check.school(SCHOOL);
        desk.writeReport(0);
        Check.same("a shorter one", desk.writeReport(2), 12);
        Check.numbered("reportByte", 12, desk::reportByte);
        Check.same("its first", desk.reportByte(0), (int) '-');
        Check.same("a longer one", desk.writeReport(0), 18);
        Check.numbered("reportByte", 18, desk::reportByte);
        Check.refused("class 3", IndexOutOfBoundsException.class, () -> desk.writeReport(3));
        Check.numbered("the report of before", 18, desk::reportByte);
    }

    /** "The text buffer, the report and the latest error are not part of the state." */
    private static void reportIsNotOfTheState() {
        SubstituteDesk desk = Check.school(SCHOOL);
        desk.reopen(0);
        desk.writeReport(0);
        desk.undo();
        Check.same("the report stays", desk.reportByte(2), (int) '?');
        desk.reopen(2);
        Check.script(desk, "open 0;x");
        desk.appendText(0x616c6c3b, 0x20202020, 0x20202020, 0x20202020, 0x20202020);
        desk.undo();
        Check.same("the error stays", desk.errorCode() * 10 + desk.errorPosition(), 17);
        Check.same("the buffer stays", desk.truncateText(20), 20);
        Check.same("and its text", desk.runScript(), 1);
        Check.same("the report stays", desk.reportByte(2), (int) '?');
    }

    // ---- promises 47 and 48

    private static void undoneToNothing() {
        SubstituteDesk desk = Check.school(SCHOOL);
        for (int i = 0; i < 3; i++) {
            Check.refused("nothing to undo", IllegalStateException.class, desk::undo);
            Check.same("undoDepth", desk.undoDepth(), 0);
        }
        desk.reset();
        Check.same("one", desk.undoDepth(), 1);
        Check.same("undo", desk.undo(), 0);
        Check.refused("nothing to undo", IllegalStateException.class, desk::undo);
    }

    /** "the latest 10 changes can be undone" */
    private static void nineTenEleven() {
        for (int changes = 0; changes <= 24; changes++) {
            SubstituteDesk desk = Check.school("grid 5 6;subject 0;teacher 9 0;room 0;classes 1;lesson 0 0 0 0 0;");
            for (int i = 1; i <= changes; i++) {
                desk.move(0, i);
                Check.same("undoDepth", desk.undoDepth(), Math.min(i, 10));
            }
            int depth = Math.min(changes, 10);
            for (int k = 1; k <= depth; k++) {
                Check.same("undo", desk.undo(), depth - k);
                Check.same("the slot of before", desk.lesson(0, 0), changes - k);
                Check.same("undoDepth", desk.undoDepth(), depth - k);
            }
            Check.refused("no more", IllegalStateException.class, desk::undo);
            Check.same("the earliest slot", desk.lesson(0, 0), Math.max(changes - 10, 0));
        }
    }

    private static void tenAgainAndAgain() {
        SubstituteDesk desk = Check.school("grid 5 6;subject 0;teacher 9 0;room 0;classes 1;lesson 0 0 0 0 0;");
        java.util.Deque<Integer> slots = new java.util.ArrayDeque<>();
        for (int i = 0; i < 200; i++) {
            boolean isUndo = i % 7 == 3 || i % 11 == 5 || i % 50 > 38;
            if (isUndo && !slots.isEmpty()) {
                desk.undo();
                Check.same("the slot of before", desk.lesson(0, 0), slots.removeLast());
            } else {
                slots.addLast(desk.lesson(0, 0));
                desk.move(0, (desk.lesson(0, 0) + 1 + i % 5) % 30);
            }
            if (slots.size() > 10) {
                slots.removeFirst();
            }
            Check.same("undoDepth", desk.undoDepth(), slots.size());
        }
    }

    /** "the latest change that was not undone" */
    private static void undoThenChange() {
        SubstituteDesk desk = Check.school(SCHOOL);
        desk.move(0, 2);
        desk.move(0, 4);
        desk.undo();
        desk.setRoom(0, 1);
        Check.same("two", desk.undoDepth(), 2);
        desk.undo();
        Check.same("the room", desk.lesson(0, 4) * 10 + desk.lesson(0, 0), 2);
        desk.undo();
        Check.same("the slot", desk.lesson(0, 0), 0);
        Check.refused("the undone one is gone", IllegalStateException.class, desk::undo);
    }

    /** "even if nothing becomes different" */
    private static void changesThatChangeNothing() {
        SubstituteDesk desk = Check.school(SCHOOL);
        desk.setAbsent(0, 0, false);
        Check.same("present already", desk.undoDepth(), 1);
        desk.setAbsent(2, 1, true);
        desk.setAbsent(2, 1, true);
        Check.same("absent already", desk.undoDepth(), 3);
        desk.repairAll();
        Check.same("nothing to repair", desk.undoDepth(), 4);
        desk.reset();
        Check.same("nothing to reset", desk.undoDepth(), 5);
        Check.script(desk, "");
        Check.same("no steps", desk.undoDepth(), 6);
        desk.undo();
        desk.undo();
        desk.undo();
        desk.undo();
        Check.same("absent since the second change", desk.teacher(2, 2), 2);
        desk.undo();
        Check.same("not before it", desk.teacher(2, 2), 0);
    }

    private static void undoOfEachChange() {
        String[] steps = {"absent 0 0;", "absent 0 0;all;", "open 0;open 2;watch 2 0;", "swap 0 2;", "move 3 5;",
            "room 3 1;", "open 4;", "absent 1 0;absent 1 1;absent 2 0;", "absent 0 0;present 0 0;"};
        for (String step : steps) {
            SubstituteDesk desk = Check.school(SCHOOL);
            String before = Check.state(desk);
            Check.script(desk, step);
            String after = Check.state(desk);
            Check.isTrue("it changes something: " + step, !after.equals(before));
            desk.reset();
            Check.same("undo of reset", desk.undo(), 1);
            Check.same("the state after " + step, Check.state(desk), after);
            Check.same("undo", desk.undo(), 0);
            Check.same("the state before " + step, Check.state(desk), before);
        }
    }

    /** "The state consists of the lessons and of who is absent": of all 40 lessons and all 8 teachers. */
    private static void undoBringsAllBack() {
        StringBuilder text = new StringBuilder("grid5 6;subject0;" + "teacher9 0;".repeat(8) + "room0;room0;classes2;");
        for (int i = 0; i < 40; i++) {
            text.append("lesson").append(i / 2).append(' ').append(i % 2).append(" 0 ").append(i % 2).append(' ')
                    .append(i % 2).append(';');
        }
        SubstituteDesk desk = Check.school(text.toString());
        String first = Check.state(desk);
        desk.move(39, 29);
        desk.setAbsent(7, 4, true);
        desk.reopen(39);
        desk.setRoom(39, 0);
        String second = Check.state(desk);
        desk.supervise(39, 2);
        desk.undo();
        Check.same("not supervised", Check.state(desk), second);
        for (int k = 3; k >= 0; k--) {
            desk.undo();
        }
        Check.same("as at first", Check.state(desk), first);
        Check.script(desk, "move 39 29;absent 7 4;absent 0 0;absent 1 4;all;");
        desk.undo();
        Check.same("as at first", Check.state(desk), first);
    }

    /** "parseSchool(), if it is successful, begins anew and makes all earlier changes not undoable." */
    private static void newSchoolIsNotUndone() {
        for (int changes : new int[] {0, 1, 9, 10, 11}) {
            SubstituteDesk desk = Check.school(SCHOOL);
            for (int i = 0; i < changes; i++) {
                desk.reset();
            }
            Check.same("wrong", Check.parse(desk, SCHOOL + "lesson"), NONE);
            Check.same("the changes stay", desk.undoDepth(), Math.min(changes, 10));
            Check.same("correct", Check.parse(desk, SCHOOL), 5);
            Check.same("none stays", desk.undoDepth(), 0);
            Check.refused("no undo", IllegalStateException.class, desk::undo);
            desk.reopen(4);
            for (int i = 0; i < 9; i++) {
                desk.reset();
            }
            Check.same("ten new ones", desk.undoDepth(), 10);
            for (int k = 9; k >= 0; k--) {
                Check.same("undo", desk.undo(), k);
            }
            Check.same("the new school", desk.lesson(4, 3), 1);
        }
    }

    // ---- section 8

    /** "A call that throws an exception changes nothing.": each call with numbers in and beside its ranges. */
    private static void whatThrowsChangesNothing() {
        SubstituteDesk desk = busyDesk();
        String before = all(desk);
        for (Method method : SubstituteDesk.class.getDeclaredMethods()) {
            boolean isAsked = Modifier.isPublic(method.getModifiers()) && method.getParameterCount() > 0
                    && !method.getName().equals("appendText") && !method.getName().equals("writeReport");
            for (int a = -1; a <= 7 && isAsked; a++) {
                for (int b = -1; b <= 10; b++) {
                    boolean isDone = isDone(desk, method, a, b);
                    if (isDone && CHANGES.contains(method.getName())) {
                        desk.undo();
                    }
                    if (isDone && method.getName().equals("truncateText")) {
                        Check.load(desk, "x".repeat(3 - desk.truncateText(0)));
                    }
                    Check.same(method.getName() + " " + a + " " + b + (isDone ? ", undone" : ", refused"), all(desk),
                            before);
                }
            }
        }
    }

    /** Some lessons open, supervised and covered, a report, an error, and three characters in the buffer. */
    private static SubstituteDesk busyDesk() {
        SubstituteDesk desk = Check.school(SCHOOL);
        Check.script(desk, "open 2;watch 2 1;absent 0 0;room 3 1;");
        desk.setAbsent(2, 1, true);
        desk.writeReport(0);
        Check.script(desk, "  x");
        Check.load(desk, "xxx");
        return desk;
    }

    private static boolean isDone(SubstituteDesk desk, Method method, int a, int b) {
        Object[] numbers = method.getParameterCount() == 1 ? new Object[] {a}
                : method.getParameterCount() == 2 ? new Object[] {a, b} : new Object[] {a, b, a % 2 == 0};
        try {
            method.invoke(desk, numbers);
            return true;
        } catch (InvocationTargetException e) {
            Check.isTrue(method + " throws what its throws clause names, not " + e.getCause(),
                    Set.of(method.getExceptionTypes()).contains(e.getCause().getClass()));
            return false;
        } catch (IllegalAccessException e) {
            throw new IllegalStateException(e);
        }
    }

    /** All that can be asked without a change. */
    private static String all(SubstituteDesk desk) {
        StringBuilder text = new StringBuilder(Check.state(desk));
        text.append(desk.undoDepth()).append(' ').append(desk.errorCode()).append(' ').append(desk.errorPosition());
        for (int i = 0; i < 22; i++) {
            text.append(' ').append(byteOrNone(desk, i));
        }
        int length = 0;
        for (int k = 900; k >= 0 && length == 0; k--) {
            length = hasLength(desk, k) ? k : 0;
        }
        return text.append(' ').append(length).toString();
    }

    private static int byteOrNone(SubstituteDesk desk, int index) {
        try {
            return desk.reportByte(index);
        } catch (IndexOutOfBoundsException e) {
            return NONE;
        }
    }

    private static boolean hasLength(SubstituteDesk desk, int length) {
        try {
            return desk.truncateText(length) == length;
        } catch (IllegalArgumentException e) {
            return false;
        }
    }

    /** "All other methods change nothing but the text buffer [..] and the report": and undo goes back beyond them. */
    private static void otherCallsAreNoChanges() {
        SubstituteDesk desk = busyDesk();
        String state = Check.state(desk);
        int depth = desk.undoDepth();
        for (Method method : SubstituteDesk.class.getDeclaredMethods()) {
            String name = method.getName();
            if (!Modifier.isPublic(method.getModifiers()) || CHANGES.contains(name) || OTHERS.contains(name)) {
                continue;
            }
            for (int a = 0; a < 3 && method.getParameterCount() < 3; a++) {
                callWith(desk, method, a);
            }
            Check.same("the state after " + name, Check.state(desk), state);
            Check.same("undoDepth after " + name, desk.undoDepth(), depth);
        }
        desk.appendText(0, 0, 0, 0, 0);
        Check.same("undoDepth after appendText", desk.undoDepth(), depth);
        desk.undo();
        Check.same("the absence is undone", desk.teacher(2, 2), 0);
        desk.undo();
        Check.same("the script is undone", desk.count(9), 0);
    }

    private static void callWith(SubstituteDesk desk, Method method, int number) {
        Object[] numbers = new Object[method.getParameterCount()];
        java.util.Arrays.fill(numbers, number);
        try {
            method.invoke(desk, numbers);
        } catch (InvocationTargetException e) {
            Check.isTrue(method + " throws what its throws clause names, not " + e.getCause(),
                    Set.of(method.getExceptionTypes()).contains(e.getCause().getClass()));
        } catch (IllegalAccessException e) {
            throw new IllegalStateException(e);
        }
    }
}
