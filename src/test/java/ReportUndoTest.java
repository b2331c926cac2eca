/** Promises 45 to 48: the report and undo. */
public final class ReportUndoTest {
    private static final String SCHOOL = "grid 2 3; subject 0; subject 1; teacher 9 0; teacher 9 0 1; teacher 9 1; "
            + "room 0; room 0; room 1; classes 3; "
            + "lesson 0 0 0 0 0; lesson 0 1 0 1 1; lesson 1 0 1 2 2; lesson 3 0 0 0 0; lesson 4 1 1 1 2;";

    public static void main(String[] args) {
        report();
        reportStays();
        longestReport();
        undoEachChange();
        undoOfTen();
        undoAndGoOn();
        undoLeavesTheRest();
        Check.end();
    }

    private static void report() {
        SubstituteDesk desk = Check.school(SCHOOL);
        Check.same("class 0", Check.report(desk, 0), "0.0 1.2 -\n0.0 - -\n");
        desk.setAbsent(0, 0, true);
        desk.reopen(2);
        desk.supervise(2, 1);
        Check.same("class 0 then", Check.report(desk, 0), "0.? 1.1! -\n0.0 - -\n");
        Check.same("class 1", Check.report(desk, 1), "0.1 - -\n- 1.1 -\n");
        Check.same("class 2", Check.report(desk, 2), "- - -\n- - -\n");
        Check.same("length", desk.writeReport(2), 12);
        Check.refused("class 3", IndexOutOfBoundsException.class, () -> desk.writeReport(3));
        Check.refused("class -1", IndexOutOfBoundsException.class, () -> desk.writeReport(-1));
        Check.same("line feed", desk.reportByte(5), 10);
        Check.same("the report of before", desk.reportByte(11), 10);
        for (int bad : new int[] {12, -1, 149, 150, Integer.MIN_VALUE, Integer.MAX_VALUE}) {
            Check.refused("reportByte(" + bad + ")", IndexOutOfBoundsException.class, () -> desk.reportByte(bad));
        }
    }

    private static void reportStays() {
        SubstituteDesk desk = Check.school(SCHOOL);
        Check.refused("empty at first", IndexOutOfBoundsException.class, () -> desk.reportByte(0));
        desk.reopen(0);
        desk.writeReport(0);
        desk.undo();
        Check.same("as it was written", desk.reportByte(2), (int) '?');
        Check.parse(desk, "grid 1 1; subject 0; teacher 0 0; room 0; classes 1;");
        Check.same("after a new school too", desk.reportByte(2), (int) '?');
        Check.same("a shorter one", desk.writeReport(0), 2);
        Check.refused("in place of the previous one", IndexOutOfBoundsException.class, () -> desk.reportByte(2));
    }

    private static void longestReport() {
        StringBuilder text = new StringBuilder("grid5 6;subject0;teacher9 0;teacher9 0;room0;classes1;");
        for (int i = 0; i < 30; i++) {
            text.append("lesson ").append(i).append(" 0 0 0 0;");
        }
        SubstituteDesk desk = Check.school(text.toString());
        for (int i = 0; i < 30; i++) {
            desk.reopen(i);
            if (i % 6 < 2) {
                desk.supervise(i, 1);
            }
        }
        String line = "0.1! 0.1! 0.? 0.? 0.? 0.?\n";
        Check.same("thirty lessons", Check.report(desk, 0), line.repeat(5));
    }

    private static void undoEachChange() {
        SubstituteDesk desk = Check.school(SCHOOL);
        String[] states = new String[11];
        int done = 0;
        states[done++] = Check.state(desk);
        desk.setAbsent(0, 0, true);
        states[done++] = Check.state(desk);
        desk.supervise(0, 2);
        states[done++] = Check.state(desk);
        desk.reopen(0);
        states[done++] = Check.state(desk);
        desk.setAbsent(0, 0, false);
        states[done++] = Check.state(desk);
        desk.cover(0, 0);
        states[done++] = Check.state(desk);
        desk.exchange(0, 2);
        states[done++] = Check.state(desk);
        desk.move(3, 5);
        states[done++] = Check.state(desk);
        desk.setRoom(3, 1);
        states[done++] = Check.state(desk);
        Check.script(desk, "open 0; absent 2 1; open 4;");
        states[done++] = Check.state(desk);
        desk.repairAll();
        states[done] = Check.state(desk);
        for (int k = 10; k > 0; k--) {
            Check.same("undoDepth", desk.undoDepth(), k);
            Check.same("state " + k, Check.state(desk), states[k]);
            Check.same("undo", desk.undo(), k - 1);
        }
        Check.same("state 0", Check.state(desk), states[0]);
        Check.refused("nothing is left", IllegalStateException.class, desk::undo);
        Check.same("undoDepth", desk.undoDepth(), 0);
        desk.reopen(0);
        desk.reset();
        desk.undo();
        Check.same("before the reset", desk.lesson(0, 3), SubstituteDesk.NONE);
        desk.move(0, 2);
        desk.repair(0);
        desk.undo();
        Check.same("after the move", desk.lesson(0, 0), 2);
        Check.same("before the repair", desk.lesson(0, 3), SubstituteDesk.NONE);
    }

    private static void undoOfTen() {
        for (int changes = 11; changes <= 34; changes++) {
            SubstituteDesk desk = Check.school(SCHOOL);
            for (int i = 0; i < changes; i++) {
                desk.setAbsent(i % 3, i / 3 % 2, i % 4 != 3);
                desk.setRoom(3, 1 - desk.lesson(3, 4));
            }
            Check.same("at most ten", desk.undoDepth(), 10);
            int room = desk.lesson(3, 4);
            for (int k = 9; k >= 0; k--) {
                Check.same("undo", desk.undo(), k);
            }
            Check.same("five rooms back", desk.lesson(3, 4), 1 - room);
            Check.refused("the eleventh", IllegalStateException.class, desk::undo);
        }
    }

    private static void undoAndGoOn() {
        SubstituteDesk desk = Check.school(SCHOOL);
        for (int i = 0; i < 12; i++) {
            desk.setRoom(3, 1 - i % 2);
        }
        desk.undo();
        desk.undo();
        Check.same("undoDepth", desk.undoDepth(), 8);
        desk.move(3, 5);
        Check.same("undoDepth", desk.undoDepth(), 9);
        Check.same("the move is undone", desk.undo(), 8);
        Check.same("slot", desk.lesson(3, 0), 3);
        Check.same("undoDepth of a wrong script", Check.script(desk, "open 0; x") + desk.undoDepth(), 7);
        Check.same("the latest before", desk.undo(), 7);
        Check.same("room", desk.lesson(3, 4), 1);
    }

    private static void undoLeavesTheRest() {
        SubstituteDesk desk = Check.school(SCHOOL);
        Check.script(desk, "x");
        desk.reopen(0);
        desk.appendText(0, 0, 0, 0, 0);
        desk.undo();
        Check.same("the buffer stays", desk.truncateText(20), 20);
        Check.same("the error stays", desk.errorCode(), 1);
    }
}
