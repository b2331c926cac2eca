/** Promises 8 to 17: the changes. */
public final class ChangesTest {
    private static final int NONE = SubstituteDesk.NONE;
    private static final String SCHOOL = "grid 2 3; subject 0; subject 1; teacher 1 0; teacher 2 0 1; teacher 0 1; "
            + "teacher 9 0; room 0; room 0; room 1; classes 3; "
            + "lesson 0 0 0 0 0; lesson 0 1 0 1 1; lesson 1 0 1 2 2; lesson 3 0 0 0 0; lesson 4 1 1 1 2;";

    public static void main(String[] args) {
        setAbsent();
        cover();
        supervise();
        repair();
        repairAll();
        exchange();
        move();
        setRoom();
        reopen();
        reset();
        refusedCallsChangeNothing();
        Check.end();
    }

    private static void setAbsent() {
        SubstituteDesk desk = Check.school(SCHOOL);
        desk.reopen(2);
        desk.supervise(2, 1);
        Check.same("taught and supervised ones", desk.setAbsent(1, 0, true), 2);
        Check.same("taught one is open", desk.lesson(1, 3), NONE);
        Check.same("supervised one is open", desk.lesson(2, 3), NONE);
        Check.same("and not supervised", desk.lesson(2, 5), 0);
        Check.same("the other day stays", desk.lesson(4, 3), 1);
        Check.same("absent again", desk.setAbsent(1, 0, true), 0);
        Check.same("both days", desk.setAbsent(1, 1, true), 1);
        Check.same("days", desk.teacher(1, 2), 3);
        Check.same("present", desk.setAbsent(1, 0, false), 0);
        Check.same("days", desk.teacher(1, 2), 2);
        Check.same("present changes no lesson", desk.lesson(1, 3), NONE);
        Check.same("present again", desk.setAbsent(1, 0, false), 0);
        Check.same("each is a change", desk.undoDepth(), 7);
        desk.move(3, 2);
        Check.same("a lesson that has left the day", desk.setAbsent(0, 1, true), 0);
        Check.refused("teacher 4", IndexOutOfBoundsException.class, () -> desk.setAbsent(4, 0, true));
        Check.refused("teacher -1", IndexOutOfBoundsException.class, () -> desk.setAbsent(-1, 0, true));
        Check.refused("day 2", IndexOutOfBoundsException.class, () -> desk.setAbsent(0, 2, false));
        Check.refused("day -1", IndexOutOfBoundsException.class, () -> desk.setAbsent(0, -1, true));
    }

    private static void cover() {
        SubstituteDesk desk = Check.school(SCHOOL);
        desk.reopen(0);
        Check.same("load 1", desk.cover(0, 3), 1);
        Check.same("teacher", desk.lesson(0, 3), 3);
        desk.reopen(1);
        desk.supervise(1, 2);
        Check.same("in place of who supervised", desk.cover(1, 1), 0);
        Check.same("not supervised", desk.lesson(1, 5), 0);
        Check.same("no duty more", desk.teacher(2, 5), 0);
        desk.reopen(3);
        Check.same("load 2", desk.cover(3, 3), 2);
        Check.refused("taught", IllegalStateException.class, () -> desk.cover(3, 0));
        Check.refused("lesson 5", IndexOutOfBoundsException.class, () -> desk.cover(5, 0));
        Check.refused("lesson -1", IndexOutOfBoundsException.class, () -> desk.cover(-1, 0));
        Check.refused("teacher 4", IndexOutOfBoundsException.class, () -> desk.cover(0, 4));
        Check.refused("teacher -1", IndexOutOfBoundsException.class, () -> desk.cover(0, -1));
    }

    private static void supervise() {
        SubstituteDesk desk = Check.school(SCHOOL);
        desk.reopen(0);
        Check.same("one duty", desk.supervise(0, 2), 1);
        Check.same("teacher", desk.lesson(0, 3), 2);
        Check.same("supervised", desk.lesson(0, 5), 1);
        Check.same("no load", desk.teacher(2, 4), 0);
        desk.reopen(3);
        Check.same("two duties on two days", desk.supervise(3, 2), 2);
        Check.refused("not open", IllegalStateException.class, () -> desk.supervise(3, 1));
        Check.refused("taught", IllegalStateException.class, () -> desk.supervise(4, 0));
        Check.refused("lesson 5", IndexOutOfBoundsException.class, () -> desk.supervise(5, 0));
        Check.refused("teacher 4", IndexOutOfBoundsException.class, () -> desk.supervise(4, 4));
    }

    private static void repair() {
        SubstituteDesk desk = Check.school(SCHOOL);
        Check.refused("taught", IllegalStateException.class, () -> desk.repair(0));
        desk.setAbsent(0, 0, true);
        Check.same("by one", desk.repair(0), 1);
        Check.same("teacher", desk.lesson(0, 3), 3);
        desk.setAbsent(2, 0, true);
        Check.same("by one again", desk.repair(2), 1);
        desk.reopen(0);
        desk.setAbsent(3, 0, true);
        Check.refused("no chain", IllegalStateException.class, () -> desk.repair(0));
        Check.same("it stays open", desk.lesson(0, 3), NONE);
        desk.setAbsent(2, 0, false);
        desk.supervise(0, 2);
        Check.refused("supervised", IllegalStateException.class, () -> desk.repair(0));
        Check.refused("lesson 5", IndexOutOfBoundsException.class, () -> desk.repair(5));
        Check.refused("lesson -1", IndexOutOfBoundsException.class, () -> desk.repair(-1));
    }

    private static void repairAll() {
        SubstituteDesk desk = Check.school("grid 1 2; subject 0; subject 1; teacher 0 0; teacher 1 0; teacher 1 0 1; "
                + "room 0; room 0; room 1; classes 3; lesson 0 0 0 0 0; lesson 0 1 1 2 2; lesson 1 0 0 0 0; "
                + "lesson 1 1 0 1 1;");
        Check.same("nothing to do", desk.repairAll(), 0);
        Check.same("a change all the same", desk.undoDepth(), 1);
        desk.setAbsent(0, 0, true);
        // lesson 0 takes the only lesson that teacher 1 may take more, so lesson 2 falls to teacher 2
        Check.same("both", desk.repairAll(), 2);
        Check.same("by ascending numbers", desk.lesson(0, 3) * 10 + desk.lesson(2, 3), 12);
        desk.setAbsent(2, 0, true);
        Check.same("none", desk.repairAll(), 0);
        Check.same("they stay open", desk.count(7), 2);
        desk.setAbsent(2, 0, false);
        desk.supervise(1, 2);
        desk.setAbsent(0, 0, false);
        Check.same("only the open one", desk.repairAll(), 1);
        Check.same("the supervised one stays", desk.lesson(1, 5), 1);
    }

    private static void exchange() {
        SubstituteDesk desk = Check.school(SCHOOL);
        desk.reopen(0);
        desk.supervise(0, 3);
        Check.same("slot of the first one then", desk.exchange(0, 2), 1);
        Check.same("slot of the other", desk.lesson(2, 0), 0);
        Check.same("teachers stay", desk.lesson(0, 3) * 10 + desk.lesson(2, 3), 32);
        Check.same("rooms stay", desk.lesson(0, 4) * 10 + desk.lesson(2, 4), 2);
        Check.same("supervision stays", desk.lesson(0, 5) * 10 + desk.lesson(2, 5), 10);
        Check.same("the class has it there", desk.lessonOfClass(1, 0), 0);
        Check.same("and back", desk.exchange(2, 0), 1);
        Check.refused("one lesson", IllegalStateException.class, () -> desk.exchange(2, 2));
        Check.refused("two classes", IllegalStateException.class, () -> desk.exchange(0, 4));
        Check.refused("lesson 5", IndexOutOfBoundsException.class, () -> desk.exchange(5, 0));
        Check.refused("other 5", IndexOutOfBoundsException.class, () -> desk.exchange(0, 5));
        Check.refused("other -1", IndexOutOfBoundsException.class, () -> desk.exchange(0, -1));
    }

    private static void move() {
        SubstituteDesk desk = Check.school(SCHOOL);
        Check.same("where it was", desk.move(3, 5), 3);
        Check.same("where it is", desk.lesson(3, 0), 5);
        Check.same("and back", desk.move(3, 3), 5);
        Check.refused("it is there", IllegalStateException.class, () -> desk.move(3, 3));
        Check.refused("its class", IllegalStateException.class, () -> desk.move(3, 0));
        Check.refused("lesson 5", IndexOutOfBoundsException.class, () -> desk.move(5, 2));
        Check.refused("slot 6", IndexOutOfBoundsException.class, () -> desk.move(0, 6));
        Check.refused("slot -1", IndexOutOfBoundsException.class, () -> desk.move(0, -1));
    }

    private static void setRoom() {
        SubstituteDesk desk = Check.school(SCHOOL);
        Check.same("the room that it had", desk.setRoom(3, 1), 0);
        Check.same("the room", desk.lesson(3, 4), 1);
        Check.same("and back", desk.setRoom(3, 0), 1);
        Check.refused("it has it", IllegalStateException.class, () -> desk.setRoom(3, 0));
        Check.refused("another kind", IllegalStateException.class, () -> desk.setRoom(3, 2));
        Check.refused("occupied", IllegalStateException.class, () -> desk.setRoom(0, 1));
        Check.refused("lesson 5", IndexOutOfBoundsException.class, () -> desk.setRoom(5, 0));
        Check.refused("room 3", IndexOutOfBoundsException.class, () -> desk.setRoom(0, 3));
        Check.refused("room -1", IndexOutOfBoundsException.class, () -> desk.setRoom(0, -1));
    }

    private static void reopen() {
        SubstituteDesk desk = Check.school(SCHOOL);
        Check.same("the teacher that it had", desk.reopen(4), 1);
        Check.same("open", desk.lesson(4, 3), NONE);
        desk.supervise(4, 2);
        Check.same("the supervisor that it had", desk.reopen(4), 2);
        Check.same("not supervised", desk.lesson(4, 5), 0);
        Check.refused("open", IllegalStateException.class, () -> desk.reopen(4));
        Check.refused("lesson 5", IndexOutOfBoundsException.class, () -> desk.reopen(5));
        Check.refused("lesson -1", IndexOutOfBoundsException.class, () -> desk.reopen(-1));
    }

    private static void reset() {
        SubstituteDesk desk = Check.school(SCHOOL);
        Check.same("nothing differs", desk.reset(), 0);
        desk.setAbsent(0, 0, true);
        desk.supervise(0, 3);
        desk.exchange(0, 2);
        desk.setRoom(3, 1);
        desk.move(4, 5);
        Check.same("four differed", desk.reset(), 4);
        Check.same("open, as its teacher is absent there", desk.lesson(0, 3), NONE);
        Check.same("not supervised", desk.lesson(0, 5), 0);
        Check.same("slots", desk.lesson(0, 0) * 100 + desk.lesson(2, 0) * 10 + desk.lesson(4, 0), 14);
        Check.same("room", desk.lesson(3, 4), 0);
        Check.same("only one differs", desk.count(9), 1);
        Check.same("absence stays", desk.teacher(0, 2), 1);
        Check.same("the other day", desk.lesson(3, 3), 0);
        desk.setAbsent(0, 1, true);
        desk.setAbsent(0, 1, false);
        desk.setAbsent(0, 0, false);
        Check.same("two differed", desk.reset(), 2);
        Check.same("none differs", desk.count(9), 0);
        desk.setAbsent(1, 1, true);
        desk.setAbsent(1, 0, true);
        desk.setAbsent(1, 0, false);
        Check.same("two of teacher 1", desk.reset(), 2);
        Check.same("by the first slot's day", desk.lesson(1, 3) * 10 + desk.lesson(4, 3), 9);
        Check.same("each is a change", desk.undoDepth(), 10);
        desk.undo();
        Check.same("undone", desk.lesson(1, 3), NONE);
    }

    private static void refusedCallsChangeNothing() {
        SubstituteDesk desk = Check.school(SCHOOL);
        desk.setAbsent(0, 0, true);
        String before = Check.state(desk);
        Check.refused("cover", IllegalStateException.class, () -> desk.cover(0, 0));
        Check.refused("supervise", IllegalStateException.class, () -> desk.supervise(0, 1));
        Check.refused("repair", IllegalStateException.class, () -> desk.repair(1));
        Check.refused("exchange", IllegalStateException.class, () -> desk.exchange(0, 2));
        Check.refused("move", IllegalStateException.class, () -> desk.move(0, 1));
        Check.refused("setRoom", IllegalStateException.class, () -> desk.setRoom(0, 1));
        Check.refused("reopen", IllegalStateException.class, () -> desk.reopen(0));
        Check.refused("setAbsent", IndexOutOfBoundsException.class, () -> desk.setAbsent(9, 0, true));
        Check.same("the state", Check.state(desk), before);
        Check.same("undoDepth", desk.undoDepth(), 1);
        desk.undo();
        Check.same("undo of what was done", desk.lesson(0, 3), 0);
    }
}
