/** Promises 1 and 29 to 44: a new object, and what is told about the school and the state. */
public final class SchoolTest {
    private static final int NONE = SubstituteDesk.NONE;
    /** Class 0 has a window on day 0, and teacher 0 one on day 1. */
    private static final String SCHOOL = "grid 2 4; subject 0; subject 3; teacher 2 0; teacher 0 0 1; teacher 9 1; "
            + "room 0; room 3; room 3; room 0; classes 3; "
            + "lesson 0 0 0 0 0; lesson 0 1 1 1 1; lesson 3 0 1 2 2; lesson 4 1 0 0 3; lesson 7 2 0 0 0; "
            + "lesson 2 0 0 1 0; lesson 6 0 1 1 2;";

    public static void main(String[] args) {
        newObject();
        counts();
        lessons();
        teachers();
        rooms();
        subjects();
        whereLessonsAre();
        whatIsFree();
        openAndDiffering();
        windows();
        spread();
        taughtShare();
        withoutLessons();
        Check.end();
    }

    private static void newObject() {
        SubstituteDesk desk = new SubstituteDesk();
        int[] due = {1, 2, 1, 2, 1, 1, 1, 0, 0, 0};
        for (int what = 0; what < due.length; what++) {
            Check.same("count(" + what + ") at first", desk.count(what), due[what]);
        }
        int[] lesson = {0, 0, 0, 0, 0, 0, 0, 0, 0, 0};
        for (int what = 0; what < lesson.length; what++) {
            Check.same("lesson(0, " + what + ") at first", desk.lesson(0, what), lesson[what]);
        }
        Check.same("most of both", desk.teacher(0, 0) * 10 + desk.teacher(1, 0), 22);
        Check.same("subjects of both", desk.teacher(0, 1) * 10 + desk.teacher(1, 1), 11);
        Check.same("nobody is absent", desk.teacher(0, 2) + desk.teacher(1, 2), 0);
        Check.same("kinds", desk.subject(0, 0) * 10 + desk.room(0, 0), 0);
        Check.same("nothing to undo", desk.undoDepth(), 0);
        Check.same("the buffer is empty", desk.truncateText(0), 0);
        Check.refused("the buffer is empty", IllegalArgumentException.class, () -> desk.truncateText(1));
        Check.refused("the report is empty", IndexOutOfBoundsException.class, () -> desk.reportByte(0));
        Check.same("no error", desk.errorCode() + desk.errorPosition(), NONE);
        SubstituteDesk other = new SubstituteDesk();
        desk.reopen(0);
        Check.same("objects are apart", other.lesson(0, 3), 0);
    }

    private static void counts() {
        SubstituteDesk desk = Check.school(SCHOOL);
        desk.reopen(0);
        desk.supervise(0, 2);
        desk.reopen(1);
        desk.reopen(5);
        desk.setRoom(3, 0);
        int[] due = {2, 4, 2, 3, 4, 3, 7, 2, 1, 4};
        for (int what = 0; what < due.length; what++) {
            Check.same("count(" + what + ")", desk.count(what), due[what]);
        }
        Check.refused("count(-1)", IllegalArgumentException.class, () -> desk.count(-1));
        Check.refused("count(10)", IllegalArgumentException.class, () -> desk.count(10));
    }

    private static void lessons() {
        SubstituteDesk desk = Check.school(SCHOOL);
        desk.move(2, 1);
        desk.setRoom(2, 1);
        desk.reopen(2);
        int[] open = {1, 0, 1, NONE, 1, 0, 3, 2, 2, 1};
        for (int what = 0; what < open.length; what++) {
            Check.same("lesson(2, " + what + ")", desk.lesson(2, what), open[what]);
        }
        desk.supervise(2, 0);
        Check.same("the supervisor", desk.lesson(2, 3), 0);
        Check.same("supervised", desk.lesson(2, 5), 1);
        Check.same("of another lesson", desk.lesson(6, 1) * 100 + desk.lesson(6, 2) * 10 + desk.lesson(6, 9), 10);
        Check.refused("lesson(7, 0)", IndexOutOfBoundsException.class, () -> desk.lesson(7, 0));
        Check.refused("lesson(-1, 0)", IndexOutOfBoundsException.class, () -> desk.lesson(-1, 0));
        Check.refused("lesson(0, 10)", IllegalArgumentException.class, () -> desk.lesson(0, 10));
        Check.refused("lesson(0, -1)", IllegalArgumentException.class, () -> desk.lesson(0, -1));
        Check.refused("lesson(7, 10)", IndexOutOfBoundsException.class, () -> desk.lesson(7, 10));
        differsByEach();
    }

    private static void differsByEach() {
        SubstituteDesk desk = Check.school(SCHOOL);
        desk.move(0, 1);
        Check.same("another slot", desk.lesson(0, 9), 1);
        desk.move(0, 0);
        Check.same("the first slot again", desk.lesson(0, 9), 0);
        desk.setRoom(0, 3);
        Check.same("another room", desk.lesson(0, 9), 1);
        desk.setRoom(0, 0);
        desk.reopen(0);
        Check.same("another teacher", desk.lesson(0, 9), 1);
        desk.supervise(0, 0);
        Check.same("supervised by its own teacher", desk.lesson(0, 9), 1);
        desk.reopen(1);
        desk.cover(0, 1);
        Check.same("covered by another", desk.lesson(0, 9), 1);
    }

    private static void teachers() {
        SubstituteDesk desk = Check.school(SCHOOL);
        desk.setAbsent(1, 1, true);
        desk.reopen(0);
        desk.supervise(0, 2);
        desk.cover(6, 2);
        int[] second = {0, 3, 2, 2, -1, 0, 3};
        int[] third = {9, 2, 0, 2, 1, 1, 1};
        for (int what = 0; what < 7; what++) {
            Check.same("teacher(1, " + what + ")", desk.teacher(1, what), second[what]);
            Check.same("teacher(2, " + what + ")", desk.teacher(2, what), third[what]);
        }
        desk.setAbsent(1, 0, true);
        Check.same("both days", desk.teacher(1, 2), 3);
        Check.refused("teacher(3, 0)", IndexOutOfBoundsException.class, () -> desk.teacher(3, 0));
        Check.refused("teacher(-1, 9)", IndexOutOfBoundsException.class, () -> desk.teacher(-1, 9));
        Check.refused("teacher(0, 7)", IllegalArgumentException.class, () -> desk.teacher(0, 7));
        Check.refused("teacher(0, -1)", IllegalArgumentException.class, () -> desk.teacher(0, -1));
    }

    private static void rooms() {
        SubstituteDesk desk = Check.school(SCHOOL);
        Check.same("kind", desk.room(2, 0), 3);
        Check.same("lessons", desk.room(0, 1), 3);
        Check.same("lessons", desk.room(1, 1), 1);
        desk.setRoom(0, 3);
        Check.same("lessons then", desk.room(0, 1) * 10 + desk.room(3, 1), 22);
        Check.refused("room(4, 0)", IndexOutOfBoundsException.class, () -> desk.room(4, 0));
        Check.refused("room(-1, 2)", IndexOutOfBoundsException.class, () -> desk.room(-1, 2));
        Check.refused("room(0, 2)", IllegalArgumentException.class, () -> desk.room(0, 2));
        Check.refused("room(0, -1)", IllegalArgumentException.class, () -> desk.room(0, -1));
    }

    private static void subjects() {
        SubstituteDesk desk = Check.school(SCHOOL);
        desk.reopen(0);
        Check.same("kind", desk.subject(1, 0), 3);
        Check.same("qualified", desk.subject(0, 1), 3);
        Check.same("qualified", desk.subject(1, 1), 6);
        Check.same("lessons", desk.subject(0, 2) * 10 + desk.subject(1, 2), 43);
        Check.refused("subject(2, 0)", IndexOutOfBoundsException.class, () -> desk.subject(2, 0));
        Check.refused("subject(-1, 3)", IndexOutOfBoundsException.class, () -> desk.subject(-1, 3));
        Check.refused("subject(0, 3)", IllegalArgumentException.class, () -> desk.subject(0, 3));
        Check.refused("subject(0, -1)", IllegalArgumentException.class, () -> desk.subject(0, -1));
    }

    private static void whereLessonsAre() {
        SubstituteDesk desk = Check.school(SCHOOL);
        Check.same("lessonOfClass(0, 1)", desk.lessonOfClass(0, 1), 1);
        Check.same("lessonOfClass(1, 0)", desk.lessonOfClass(1, 0), NONE);
        Check.same("lessonOfTeacher(4, 0)", desk.lessonOfTeacher(4, 0), 3);
        Check.same("lessonOfTeacher(4, 1)", desk.lessonOfTeacher(4, 1), NONE);
        Check.same("lessonInRoom(6, 2)", desk.lessonInRoom(6, 2), 6);
        Check.same("lessonInRoom(6, 0)", desk.lessonInRoom(6, 0), NONE);
        desk.reopen(3);
        Check.same("open: the class has it", desk.lessonOfClass(4, 1), 3);
        Check.same("open: the room has it", desk.lessonInRoom(4, 3), 3);
        Check.same("open: no teacher has it", desk.lessonOfTeacher(4, 0), NONE);
        desk.supervise(3, 2);
        Check.same("supervised", desk.lessonOfTeacher(4, 2), 3);
        for (int bad : new int[] {-1, 8, Integer.MIN_VALUE, Integer.MAX_VALUE}) {
            Check.refused("slot of a class", IndexOutOfBoundsException.class, () -> desk.lessonOfClass(bad, 0));
            Check.refused("class", IndexOutOfBoundsException.class, () -> desk.lessonOfClass(0, bad));
            Check.refused("slot of a teacher", IndexOutOfBoundsException.class, () -> desk.lessonOfTeacher(bad, 0));
            Check.refused("teacher", IndexOutOfBoundsException.class, () -> desk.lessonOfTeacher(0, bad));
            Check.refused("slot of a room", IndexOutOfBoundsException.class, () -> desk.lessonInRoom(bad, 0));
            Check.refused("room", IndexOutOfBoundsException.class, () -> desk.lessonInRoom(0, bad));
        }
        Check.refused("class 3", IndexOutOfBoundsException.class, () -> desk.lessonOfClass(0, 3));
        Check.refused("teacher 3", IndexOutOfBoundsException.class, () -> desk.lessonOfTeacher(0, 3));
        Check.refused("room 4", IndexOutOfBoundsException.class, () -> desk.lessonInRoom(0, 4));
    }

    private static void whatIsFree() {
        SubstituteDesk desk = Check.school(SCHOOL);
        Check.same("freeTeachers(0)", desk.freeTeachers(0), 4);
        Check.same("freeTeachers(1)", desk.freeTeachers(1), 7);
        desk.setAbsent(2, 0, true);
        Check.same("freeTeachers(0) then", desk.freeTeachers(0), 0);
        Check.same("freeTeachers(3) then", desk.freeTeachers(3), 3);
        Check.same("freeTeachers(5) then", desk.freeTeachers(5), 7);
        desk.supervise(2, 1);
        Check.same("who supervises is not free", desk.freeTeachers(3), 1);
        Check.refused("freeTeachers(8)", IndexOutOfBoundsException.class, () -> desk.freeTeachers(8));
        Check.refused("freeTeachers(-1)", IndexOutOfBoundsException.class, () -> desk.freeTeachers(-1));
        Check.same("freeRooms(0, 0)", desk.freeRooms(0, 0), 8);
        Check.same("freeRooms(0, 3)", desk.freeRooms(0, 3), 4);
        Check.same("freeRooms(0, 1)", desk.freeRooms(0, 1), 0);
        Check.same("freeRooms(1, 3)", desk.freeRooms(1, 3), 6);
        Check.same("freeRooms(1, 0)", desk.freeRooms(1, 0), 9);
        Check.refused("freeRooms(8, 4)", IndexOutOfBoundsException.class, () -> desk.freeRooms(8, 4));
        Check.refused("freeRooms(-1, 0)", IndexOutOfBoundsException.class, () -> desk.freeRooms(-1, 0));
        Check.refused("freeRooms(0, 4)", IllegalArgumentException.class, () -> desk.freeRooms(0, 4));
        Check.refused("freeRooms(0, -1)", IllegalArgumentException.class, () -> desk.freeRooms(0, -1));
    }

    private static void openAndDiffering() {
        SubstituteDesk desk = Check.school(SCHOOL);
        Check.refused("openLesson(0)", java.util.NoSuchElementException.class, () -> desk.openLesson(0));
        Check.refused("difference(0)", java.util.NoSuchElementException.class, () -> desk.difference(0));
        desk.reopen(4);
        desk.reopen(1);
        desk.setRoom(3, 0);
        Check.same("openLesson(0)", desk.openLesson(0), 1);
        Check.same("openLesson(1)", desk.openLesson(1), 4);
        Check.same("difference(0)", desk.difference(0), 1);
        Check.same("difference(1)", desk.difference(1), 3);
        Check.same("difference(2)", desk.difference(2), 4);
        for (int bad : new int[] {-1, 3, Integer.MIN_VALUE, Integer.MAX_VALUE}) {
            Check.refused("openLesson", java.util.NoSuchElementException.class, () -> desk.openLesson(bad));
            Check.refused("difference", java.util.NoSuchElementException.class, () -> desk.difference(bad));
        }
        Check.refused("openLesson(2)", java.util.NoSuchElementException.class, () -> desk.openLesson(2));
        desk.reopen(0);
        Check.same("lesson 0 is the first then", desk.openLesson(0) + desk.difference(0), 0);
        Check.same("lesson 1 is the second then", desk.openLesson(1) * 10 + desk.difference(1), 11);
        Check.refused("openLesson(-1)", java.util.NoSuchElementException.class, () -> desk.openLesson(-1));
    }

    private static void windows() {
        SubstituteDesk desk = Check.school(SCHOOL);
        Check.same("teacher 0, day 1", desk.windows(0, 1), 2);
        Check.same("teacher 0, day 0", desk.windows(0, 0), 0);
        Check.same("teacher 1, day 0", desk.windows(1, 0), 1);
        Check.same("teacher 2, day 1", desk.windows(2, 1), 0);
        desk.reopen(4);
        Check.same("no later lesson", desk.windows(0, 1), 0);
        desk.supervise(4, 1);
        Check.same("no earlier gap", desk.windows(1, 1), 0);
        desk.reopen(3);
        desk.supervise(3, 1);
        Check.same("supervisions count", desk.windows(1, 1), 1);
        Check.same("class 0, day 0", desk.classWindows(0, 0), 1);
        Check.same("class 1, day 0", desk.classWindows(1, 0), 0);
        desk.reopen(2);
        Check.same("open lessons of a class count", desk.classWindows(0, 0), 1);
        desk.move(5, 1);
        Check.same("still one", desk.classWindows(0, 0), 1);
        desk.move(5, 5);
        Check.same("two then", desk.classWindows(0, 0), 2);
        Check.same("none on the other day", desk.classWindows(0, 1), 0);
        for (int bad : new int[] {-1, 3, Integer.MAX_VALUE}) {
            Check.refused("teacher", IndexOutOfBoundsException.class, () -> desk.windows(bad, 0));
            Check.refused("day", IndexOutOfBoundsException.class, () -> desk.windows(0, bad));
            Check.refused("class", IndexOutOfBoundsException.class, () -> desk.classWindows(bad, 0));
            Check.refused("day", IndexOutOfBoundsException.class, () -> desk.classWindows(0, bad));
        }
        Check.refused("day 2", IndexOutOfBoundsException.class, () -> desk.windows(0, 2));
        Check.refused("day 2", IndexOutOfBoundsException.class, () -> desk.classWindows(0, 2));
    }

    private static void spread() {
        SubstituteDesk desk = Check.school(SCHOOL);
        Check.same("at first", desk.spread(), 0);
        desk.reopen(1);
        desk.cover(1, 2);
        Check.same("-1 to 1", desk.spread(), 2);
        desk.reopen(5);
        desk.reopen(6);
        Check.same("-3 to 1", desk.spread(), 4);
        desk.setAbsent(1, 1, true);
        Check.same("without teacher 1", desk.spread(), 1);
        desk.setAbsent(2, 1, true);
        Check.same("teacher 0 alone", desk.spread(), 0);
        desk.setAbsent(0, 0, true);
        Check.same("nobody", desk.spread(), 0);
        desk.setAbsent(1, 1, false);
        desk.setAbsent(2, 1, false);
        Check.same("-3 to 1 again, but without teacher 0", desk.spread(), 4);
    }

    private static void taughtShare() {
        SubstituteDesk desk = Check.school(SCHOOL);
        Check.same("all", desk.taughtShare(), 1.0);
        desk.reopen(0);
        Check.same("one open", desk.taughtShare(), 6.0 / 7.0);
        desk.supervise(0, 2);
        Check.same("one supervised", desk.taughtShare(), 6.0 / 7.0);
        for (int i = 0; i < 7; i++) {
            desk.reopen(i);
        }
        Check.same("none", desk.taughtShare(), 0.0);
        SubstituteDesk small = new SubstituteDesk();
        small.reopen(0);
        Check.same("none of one", small.taughtShare(), 0.0);
    }

    private static void withoutLessons() {
        SubstituteDesk desk = Check.school("grid 1 1; subject 0; teacher 0 0; room 0; classes 1;");
        Check.same("share", desk.taughtShare(), 1.0);
        Check.same("lessons", desk.count(6), 0);
        Check.same("free teachers", desk.freeTeachers(0), 1);
        Check.same("the class has none", desk.lessonOfClass(0, 0), NONE);
        Check.same("repairAll", desk.repairAll(), 0);
        Check.same("reset", desk.reset(), 0);
        Check.refused("no lesson", IndexOutOfBoundsException.class, () -> desk.lesson(0, 0));
        Check.refused("no lesson", IndexOutOfBoundsException.class, () -> desk.chain(0));
    }
}
