/** Promises 8 to 17 and sections 2 to 4: each boundary that a sentence names, and what lies beside it. */
public final class EdgesOfChangesTest {
    private static final int NONE = SubstituteDesk.NONE;
    /** Lessons of class 0 and teacher 0 at the first and last slots of days: 0: 5; 1: 6, 11; 2: 12; 4: 24, 29. */
    private static final String DAYS = "grid 5 6;subject 0;" + "teacher 9 0;".repeat(8) + "room 0;room 0;classes 2;"
            + "lesson 5 0 0 0 0;lesson 6 0 0 0 0;lesson 11 0 0 0 0;lesson 12 0 0 0 0;lesson 24 0 0 0 0;"
            + "lesson 29 0 0 0 0;lesson 6 1 0 7 1;lesson 24 1 0 7 1;";

    public static void main(String[] args) {
        numbersOfThings();
        lessonsOfTheDay();
        supervisedOnTheDay();
        absentAlready();
        presentAgain();
        mostOfNine();
        mostOfZero();
        coverEndsSupervision();
        dutiesOfADay();
        dutiesThatEnd();
        thirdDutyByMoveAndExchange();
        chainsOfEachLength();
        repairNeedsAnOpenLesson();
        repairAllByAscendingNumbers();
        repairAllGoesOn();
        repairAllByChains();
        exchangeReturnsAndKeeps();
        exchangeOverDays();
        moveReturnsAndKeeps();
        setRoomReturnsAndKeeps();
        reopenReturns();
        resetCounts();
        resetByTheFirstSlot();
        resetOfAll();
        resetOfExchanged();
        Check.end();
    }

    private static void numbersOfThings() {
        SubstituteDesk desk = Check.school(DAYS);
        Check.numbered("setAbsent teacher", 8, k -> desk.setAbsent(k, 0, false));
        Check.numbered("setAbsent day", 5, k -> desk.setAbsent(1, k, false));
        Check.numbered("setAbsent teacher", 8, k -> desk.setAbsent(k, 3, true));
        Check.numbered("setAbsent day", 5, k -> desk.setAbsent(1, k, true));
        Check.numbered("cover lesson", 8, k -> desk.cover(k, 1));
        Check.numbered("cover teacher", 8, k -> desk.cover(0, k));
        Check.numbered("supervise lesson", 8, k -> desk.supervise(k, 1));
        Check.numbered("supervise teacher", 8, k -> desk.supervise(0, k));
        Check.numbered("repair", 8, desk::repair);
        Check.numbered("exchange lesson", 8, k -> desk.exchange(k, 0));
        Check.numbered("exchange other", 8, k -> desk.exchange(0, k));
        Check.numbered("move lesson", 8, k -> desk.move(k, 1));
        Check.numbered("move slot", 30, k -> desk.move(1, k));
        Check.numbered("setRoom lesson", 8, k -> desk.setRoom(k, 1));
        Check.numbered("setRoom room", 2, k -> desk.setRoom(0, k));
        Check.numbered("reopen", 8, desk::reopen);
        SubstituteDesk empty = Check.school("grid 1 1;subject 0;teacher 0 0;room 0;classes 1;");
        for (int lesson : new int[] {-1, 0, 1}) {
            Check.refused("repair", IndexOutOfBoundsException.class, () -> empty.repair(lesson));
            Check.refused("reopen", IndexOutOfBoundsException.class, () -> empty.reopen(lesson));
            Check.refused("cover", IndexOutOfBoundsException.class, () -> empty.cover(lesson, 0));
            Check.refused("supervise", IndexOutOfBoundsException.class, () -> empty.supervise(lesson, 0));
            Check.refused("exchange", IndexOutOfBoundsException.class, () -> empty.exchange(lesson, lesson));
            Check.refused("move", IndexOutOfBoundsException.class, () -> empty.move(lesson, 0));
            Check.refused("setRoom", IndexOutOfBoundsException.class, () -> empty.setRoom(lesson, 0));
        }
    }

    // ---- promise 8 and section 2

    /** The numbers of the lessons, with question marks in place of open ones. */
    private static String open(SubstituteDesk desk) {
        StringBuilder text = new StringBuilder();
        for (int i = 0; i < desk.count(6); i++) {
            text.append(desk.lesson(i, 3) == NONE ? "?" : "" + i);
        }
        return text.toString();
    }

    /** "all lessons that the teacher teaches or supervises on this day become open": not of the days beside it. */
    private static void lessonsOfTheDay() {
        int[] opened = {1, 2, 1, 0, 2};
        String[] states = {"?1234567", "0??34567", "012?4567", "01234567", "0123??67"};
        for (int day = 0; day < 5; day++) {
            SubstituteDesk desk = Check.school(DAYS);
            Check.same("opened on day " + day, desk.setAbsent(0, day, true), opened[day]);
            Check.same("open then", open(desk), states[day]);
            Check.same("absent on the day", desk.teacher(0, 2), 1 << day);
            Check.same("nobody else is", desk.teacher(1, 2) + desk.teacher(7, 2), 0);
        }
        SubstituteDesk desk = Check.school(DAYS);
        Check.same("the last teacher, day 1", desk.setAbsent(7, 1, true), 1);
        Check.same("the last teacher, day 4", desk.setAbsent(7, 4, true), 1);
        Check.same("open then", open(desk), "012345??");
        for (int day = 0; day < 5; day++) {
            desk.setAbsent(0, day, true);
        }
        Check.same("all days", desk.teacher(0, 2), 31);
        Check.same("all are open", desk.count(7), 8);
    }

    private static void supervisedOnTheDay() {
        SubstituteDesk desk = Check.school(DAYS);
        for (int i = 0; i < 6; i++) {
            desk.reopen(i);
        }
        desk.supervise(0, 3);
        desk.supervise(1, 3);
        desk.supervise(3, 3);
        desk.cover(2, 3);
        Check.same("one supervised and one taught", desk.setAbsent(3, 1, true), 2);
        Check.same("supervised on other days", desk.lesson(0, 5) + desk.lesson(3, 5), 2);
        Check.same("open on this day", desk.lesson(1, 3) + desk.lesson(2, 3), -2);
        Check.same("not supervised", desk.lesson(1, 5), 0);
        Check.same("duties", desk.teacher(3, 5), 2);
        Check.same("load", desk.teacher(3, 4), 0);
    }

    private static void absentAlready() {
        SubstituteDesk desk = Check.school(DAYS);
        desk.setAbsent(0, 1, true);
        String before = Check.state(desk);
        Check.same("none becomes open again", desk.setAbsent(0, 1, true), 0);
        Check.same("nothing becomes different", Check.state(desk), before);
        Check.same("a change all the same", desk.undoDepth(), 2);
        Check.same("present already", desk.setAbsent(0, 2, false), 0);
        Check.same("nothing becomes different", Check.state(desk), before);
        Check.same("a change all the same", desk.undoDepth(), 3);
    }

    /** "Being present again changes no lesson." */
    private static void presentAgain() {
        SubstituteDesk desk = Check.school(DAYS);
        desk.setAbsent(0, 1, true);
        desk.setAbsent(0, 4, true);
        String before = open(desk);
        Check.same("none becomes open", desk.setAbsent(0, 1, false), 0);
        Check.same("the lessons stay", open(desk), before);
        Check.same("absent on the other day", desk.teacher(0, 2), 16);
        Check.same("the first one may cover again", desk.cover(1, 0), -3);
        Check.same("taught lessons stay", desk.setAbsent(0, 0, false), 0);
        Check.same("open then", open(desk), "01?3??67");
    }

    // ---- promises 9 and 10 and section 3

    private static String oneClass(String teachers, int lessons) {
        StringBuilder text = new StringBuilder("grid 5 6;subject 0;" + teachers + "room 0;classes 1;");
        for (int i = 0; i < lessons; i++) {
            text.append("lesson ").append(i).append(" 0 0 0 0;");
        }
        return text.toString();
    }

    /** "the load of the teacher is at least MOST" */
    private static void mostOfNine() {
        for (int most = 0; most <= 9; most++) {
            SubstituteDesk desk = Check.school(oneClass("teacher 0 0;teacher " + most + " 0;", 11));
            for (int i = 0; i < 11; i++) {
                desk.reopen(i);
                if (i < most) {
                    Check.same("load below " + most, desk.whyNotCover(i, 1), 0);
                    Check.same("the load then", desk.cover(i, 1), i + 1);
                } else {
                    int lesson = i;
                    Check.same("load of " + most, desk.whyNotCover(i, 1), 5);
                    Check.refused("cover " + i, IllegalStateException.class, () -> desk.cover(lesson, 1));
                }
            }
            Check.same("the load", desk.teacher(1, 4), most);
            if (most > 0) {
                desk.reopen(0);
                Check.same("one less again", desk.cover(10, 1), most);
            }
        }
    }

    /** "it can be negative": whoever has lost a lesson may take one more, also with MOST 0. */
    private static void mostOfZero() {
        SubstituteDesk desk = Check.school("grid 1 3;subject 0;teacher 0 0;teacher 9 0;room 0;classes 1;"
                + "lesson 0 0 0 0 0;lesson 1 0 0 0 0;lesson 2 0 0 1 0;");
        desk.reopen(0);
        desk.reopen(1);
        desk.reopen(2);
        Check.same("load -2", desk.teacher(0, 4), -2);
        Check.same("load -1 then", desk.cover(2, 0), -1);
        Check.same("load 0 then", desk.cover(0, 0), 0);
        Check.same("not above it", desk.whyNotCover(1, 0), 5);
        Check.same("load 0 then, of another", desk.cover(1, 1), 0);
        SubstituteDesk many = Check.school(oneClass("teacher 0 0;", 30));
        many.setAbsent(0, 0, true);
        for (int i = 6; i < 30; i++) {
            many.reopen(i);
        }
        Check.same("load -30", many.teacher(0, 4), -30);
    }

    /** "Otherwise the teacher teaches it then, in place of one who supervised it." */
    private static void coverEndsSupervision() {
        SubstituteDesk desk = Check.school(DAYS);
        desk.reopen(1);
        desk.supervise(1, 3);
        Check.same("who supervises it can't cover it", desk.whyNotCover(1, 3), 4);
        Check.same("another can", desk.cover(1, 4), 1);
        Check.same("the teacher", desk.lesson(1, 3), 4);
        Check.same("no more supervised", desk.lesson(1, 5) + desk.teacher(3, 5) + desk.count(8), 0);
        Check.same("the first one is free", desk.lessonOfTeacher(6, 3), NONE);
        desk.reopen(1);
        Check.same("after reopening the first one can", desk.cover(1, 3), 1);
    }

    /** "the teacher has two duties on that day already" */
    private static void dutiesOfADay() {
        SubstituteDesk desk = Check.school("grid 3 3;subject 0;teacher 0 0;teacher 0 0;room 0;classes 1;"
                + "lesson 2 0 0 0 0;lesson 3 0 0 0 0;lesson 4 0 0 0 0;lesson 5 0 0 0 0;lesson 6 0 0 0 0;");
        for (int i = 0; i < 5; i++) {
            desk.reopen(i);
        }
        Check.same("last slot of day 0", desk.supervise(0, 1), 1);
        Check.same("first slot of day 2", desk.supervise(4, 1), 2);
        Check.same("none on day 1", desk.whyNotSupervise(1, 1), 0);
        Check.same("first slot of day 1", desk.supervise(1, 1), 3);
        Check.same("one on day 1", desk.whyNotSupervise(3, 1), 0);
        Check.same("last slot of day 1", desk.supervise(3, 1), 4);
        Check.same("two on day 1", desk.whyNotSupervise(2, 1), 6);
        Check.refused("two on day 1", IllegalStateException.class, () -> desk.supervise(2, 1));
        Check.same("another may", desk.supervise(2, 0), 1);
    }

    /** Duties that have ended do not count any more. */
    private static void dutiesThatEnd() {
        SubstituteDesk desk = Check.school("grid 1 6;subject 0;teacher 0 0;teacher 9 0;teacher 9 0;room 0;classes 1;"
                + "lesson 0 0 0 0 0;lesson 1 0 0 0 0;lesson 2 0 0 0 0;lesson 3 0 0 0 0;");
        for (int i = 0; i < 4; i++) {
            desk.reopen(i);
        }
        desk.supervise(0, 1);
        desk.supervise(1, 1);
        desk.cover(2, 1);
        Check.same("two", desk.whyNotSupervise(3, 1), 6);
        desk.cover(0, 2);
        Check.same("one, and one lesson taught", desk.whyNotSupervise(3, 1), 0);
        Check.same("two again", desk.supervise(3, 1), 2);
        desk.reopen(3);
        Check.same("one after reopening", desk.supervise(3, 1), 2);
        Check.same("all and two", desk.setAbsent(1, 0, true), 3);
        desk.setAbsent(1, 0, false);
        Check.same("none after the absence", desk.supervise(1, 1), 1);
        desk.undo();
        Check.same("none after undo", desk.teacher(1, 5), 0);
        String head = "grid 1 6;subject 0;teacher 0 0;teacher 9 0;room 0;classes 1;lesson 0 0 0 0 0;lesson 1 0 0 0 0;";
        Check.parse(desk, head + "lesson 2 0 0 0 0;");
        desk.reopen(2);
        desk.supervise(2, 1);
        Check.parse(desk, head);
        desk.reopen(0);
        desk.reopen(1);
        Check.same("the first of a new school", desk.supervise(0, 1), 1);
        Check.same("the second of a new school", desk.supervise(1, 1), 2);
    }

    private static void thirdDutyByMoveAndExchange() {
        SubstituteDesk desk = Check.school("grid 2 3;subject 0;teacher 9 0;teacher 9 0;room 0;classes 1;"
                + "lesson 0 0 0 0 0;lesson 1 0 0 0 0;lesson 3 0 0 0 0;lesson 4 0 0 0 0;");
        for (int i = 0; i < 3; i++) {
            desk.reopen(i);
            desk.supervise(i, 1);
        }
        Check.same("a move is not refused", desk.move(2, 2), 3);
        Check.same("three on the day", desk.teacher(1, 5), 3);
        desk.reopen(0);
        Check.same("two still", desk.whyNotSupervise(0, 1), 6);
        desk.exchange(2, 3);
        Check.same("one, after an exchange over days", desk.whyNotSupervise(0, 1), 0);
        Check.same("three of both days", desk.supervise(0, 1), 3);
    }

    // ---- promises 11 and 12

    /** Lesson k of slot 0 is of teacher k, for whom teacher k + 1 can stand in; teacher number is free. */
    private static String row(int number) {
        StringBuilder text = new StringBuilder("grid 1 2;" + "subject 0;".repeat(6));
        for (int k = 0; k <= number; k++) {
            text.append("teacher ").append(k < number ? 0 : 1).append(k < number ? " " + k : "")
                    .append(k > 0 ? " " + (k - 1) : "").append(';');
        }
        text.append("room 0;".repeat(6)).append("classes 6;");
        for (int k = 0; k < number; k++) {
            text.append("lesson 0 ").append(k).append(' ').append(k).append(' ').append(k).append(' ').append(k)
                    .append(';');
        }
        return text.toString();
    }

    /** "a sequence of 1 to 4 different teachers" */
    private static void chainsOfEachLength() {
        for (int number = 1; number <= 6; number++) {
            SubstituteDesk desk = Check.school(row(number));
            desk.setAbsent(0, 0, true);
            String before = Check.state(desk);
            Check.same("chain", desk.chain(0), number <= 4 ? number : 0);
            if (number > 4) {
                Check.refused("repair by more than four", IllegalStateException.class, () -> desk.repair(0));
                Check.same("the state", Check.state(desk), before);
                Check.same("repairAll", desk.repairAll(), 0);
                Check.same("the state", Check.state(desk), before);
                continue;
            }
            Check.same("repair", desk.repair(0), number);
            for (int k = 0; k < number; k++) {
                Check.same("the next one's", desk.lesson(k, 3), k + 1);
                Check.same("taught", desk.lesson(k, 5), 0);
            }
            Check.same("none is open", desk.count(7), 0);
            Check.same("load of the last", desk.teacher(number, 4), 1);
            Check.same("undo", desk.undo(), 1);
            Check.same("the state", Check.state(desk), before);
            Check.same("repairAll", desk.repairAll(), 1);
            Check.same("none is open", desk.count(7), 0);
        }
    }

    /** "if the lesson is not open, or there is no chain for it" */
    private static void repairNeedsAnOpenLesson() {
        SubstituteDesk desk = Check.school(row(1));
        Check.refused("taught", IllegalStateException.class, () -> desk.repair(0));
        desk.reopen(0);
        desk.supervise(0, 0);
        Check.refused("supervised", IllegalStateException.class, () -> desk.repair(0));
        desk.reopen(0);
        Check.same("open", desk.repair(0), 1);
        Check.same("by the least load", desk.lesson(0, 3), 0);
        desk.setAbsent(0, 0, true);
        desk.setAbsent(1, 0, true);
        Check.refused("no chain", IllegalStateException.class, () -> desk.repair(0));
        desk.setAbsent(1, 0, false);
        Check.same("a chain again", desk.repair(0), 1);
        Check.refused("taught now", IllegalStateException.class, () -> desk.repair(0));
    }

    /** "by ascending numbers, each by its chain as it is then" */
    private static void repairAllByAscendingNumbers() {
        SubstituteDesk desk = Check.school("grid 1 6;subject 0;teacher 0 0;teacher 2 0;teacher 1 0;room 0;classes 1;"
                + "lesson 5 0 0 0 0;lesson 3 0 0 0 0;lesson 4 0 0 0 0;lesson 0 0 0 0 0;");
        desk.setAbsent(0, 0, true);
        Check.same("three of four", desk.repairAll(), 3);
        // loads 0 0, then 1 0, then 1 1, then 2 1
        Check.same("lesson 0 first", desk.lesson(0, 3), 1);
        Check.same("lesson 1 by the lesser load", desk.lesson(1, 3), 2);
        Check.same("lesson 2", desk.lesson(2, 3), 1);
        Check.same("the last number stays open", desk.openLesson(0), 3);
        Check.same("none more", desk.repairAll(), 0);
        Check.same("it stays open", desk.count(7), 1);
    }

    /** "those without a chain stay open": the later ones are repaired all the same. */
    private static void repairAllGoesOn() {
        SubstituteDesk desk = Check.school("grid 1 6;subject 0;subject 0;teacher 0 0 1;teacher 9 1;room 0;classes 1;"
                + "lesson 0 0 0 0 0;lesson 1 0 1 0 0;lesson 2 0 0 0 0;lesson 3 0 1 0 0;lesson 4 0 1 0 0;");
        desk.setAbsent(0, 0, true);
        desk.supervise(4, 1);
        Check.same("two", desk.repairAll(), 2);
        Check.same("open", open(desk), "?1?34");
        Check.same("the supervised one stays", desk.lesson(4, 5), 1);
        Check.same("undone as one", desk.undo(), 2);
        Check.same("open", open(desk), "????4");
        SubstituteDesk none = Check.school(row(1));
        Check.same("none is open", none.repairAll(), 0);
        Check.same("a change all the same", none.undoDepth(), 1);
    }

    private static void repairAllByChains() {
        SubstituteDesk desk = Check.school("grid 1 1;" + "subject 0;".repeat(3)
                + "teacher 0 0;teacher 0 0 1;teacher 9 1;teacher 9 2;teacher 9 2;" + "room 0;".repeat(3) + "classes 3;"
                + "lesson 0 0 0 0 0;lesson 0 1 1 1 1;lesson 0 2 2 3 2;");
        desk.setAbsent(0, 0, true);
        desk.setAbsent(3, 0, true);
        Check.same("both", desk.repairAll(), 2);
        Check.same("a chain of two", desk.lesson(0, 3) * 10 + desk.lesson(1, 3), 12);
        Check.same("a chain of one", desk.lesson(2, 3), 4);
    }

    // ---- promises 13 to 16

    private static void exchangeReturnsAndKeeps() {
        for (int first = 0; first < 2; first++) {
            SubstituteDesk desk = Check.school(DAYS);
            int other = 5 - 5 * first;
            Check.same("the slot of the first one then", desk.exchange(5 * first, other), first == 0 ? 29 : 5);
            Check.same("slots", desk.lesson(0, 0) * 100 + desk.lesson(5, 0), 2905);
            Check.same("the first ones stay", desk.lesson(0, 6) * 100 + desk.lesson(5, 6), 529);
            Check.same("both differ", desk.count(9), 2);
            Check.same("back", desk.exchange(5 * first, other), first == 0 ? 5 : 29);
            Check.same("none differs", desk.count(9), 0);
        }
    }

    private static void exchangeOverDays() {
        SubstituteDesk desk = Check.school(DAYS);
        desk.reopen(1);
        desk.supervise(1, 3);
        desk.exchange(1, 0);
        Check.same("supervised still", desk.lesson(1, 5), 1);
        Check.same("by the same", desk.lesson(1, 3), 3);
        Check.same("busy on the other day", desk.lessonOfTeacher(5, 3), 1);
        Check.same("opened there", desk.setAbsent(3, 0, true), 1);
        Check.same("the other one is taught", desk.lesson(0, 3), 0);
        Check.same("opened on day 1", desk.setAbsent(0, 1, true), 2);
    }

    private static void moveReturnsAndKeeps() {
        SubstituteDesk desk = Check.school(DAYS);
        Check.same("from 5", desk.move(0, 0), 5);
        Check.same("from the first slot", desk.move(0, 28), 0);
        Check.same("from the last slot", desk.move(5, 0), 29);
        Check.same("to the last slot", desk.move(0, 29), 28);
        Check.same("slots", desk.lesson(0, 0) * 100 + desk.lesson(5, 0), 2900);
        Check.same("teacher, room and supervision stay",
                desk.lesson(0, 3) + desk.lesson(0, 4) + desk.lesson(0, 5), 0);
        desk.reopen(0);
        Check.same("open ones too", desk.move(0, 28), 29);
        Check.same("open still", desk.lesson(0, 3), NONE);
        desk.supervise(0, 3);
        Check.same("supervised ones too", desk.move(0, 27), 28);
        Check.same("supervised still", desk.lesson(0, 3) * 10 + desk.lesson(0, 5), 31);
    }

    private static void setRoomReturnsAndKeeps() {
        SubstituteDesk desk = Check.school(DAYS);
        Check.same("the room that it had", desk.setRoom(5, 1), 0);
        Check.same("and back", desk.setRoom(5, 0), 1);
        Check.refused("occupied", IllegalStateException.class, () -> desk.setRoom(1, 1));
        desk.move(6, 7);
        Check.same("free now", desk.setRoom(1, 1), 0);
        Check.same("slot, teacher and supervision stay",
                desk.lesson(1, 0) * 100 + desk.lesson(1, 3) * 10 + desk.lesson(1, 5), 600);
        desk.reopen(2);
        Check.same("open ones too", desk.setRoom(2, 1), 0);
        Check.same("open still", desk.lesson(2, 3), NONE);
    }

    /** "Returns the teacher that it had", who taught or supervised it. */
    private static void reopenReturns() {
        SubstituteDesk desk = Check.school(DAYS);
        Check.same("the first teacher", desk.reopen(0), 0);
        Check.refused("open", IllegalStateException.class, () -> desk.reopen(0));
        Check.same("the last teacher", desk.reopen(7), 7);
        desk.supervise(7, 6);
        Check.same("who supervised", desk.reopen(7), 6);
        Check.refused("open", IllegalStateException.class, () -> desk.reopen(7));
        Check.same("neither", desk.lesson(7, 3) + desk.lesson(7, 5), NONE);
    }

    // ---- promise 17

    private static void resetCounts() {
        SubstituteDesk desk = Check.school(DAYS);
        for (int differing = 0; differing <= 8; differing++) {
            for (int i = 0; i < differing; i++) {
                desk.reopen(i);
            }
            Check.same("those that differed", desk.reset(), differing);
            Check.same("none differs", desk.count(9), 0);
        }
        Check.same("none differed", desk.reset(), 0);
        Check.same("a change all the same", desk.undoDepth(), 10);
    }

    /** "except that those whose teacher is absent on the day of the slot there are open" */
    private static void resetByTheFirstSlot() {
        SubstituteDesk desk = Check.school(DAYS);
        desk.move(0, 13);
        desk.setAbsent(0, 0, true);
        Check.same("taught on day 2", desk.lesson(0, 3), 0);
        Check.same("it differed", desk.reset(), 1);
        Check.same("open on day 0", desk.lesson(0, 3), NONE);
        Check.same("its slot", desk.lesson(0, 0), 5);
        Check.same("it differs still", desk.reset(), 1);
        desk.setAbsent(0, 0, false);
        desk.move(0, 13);
        desk.cover(0, 0);
        desk.setAbsent(0, 2, true);
        Check.same("open on day 2", open(desk), "?12?4567");
        Check.same("both differed", desk.reset(), 2);
        Check.same("the one of day 0 is taught", open(desk), "012?4567");
        desk.setAbsent(7, 0, true);
        desk.setAbsent(7, 2, true);
        Check.same("one differed", desk.reset(), 1);
        Check.same("another's absence on other days", open(desk), "012?4567");
    }

    private static void resetOfAll() {
        SubstituteDesk desk = Check.school(DAYS);
        String first = Check.state(desk);
        desk.reopen(1);
        desk.supervise(1, 0);
        desk.reopen(7);
        desk.cover(7, 2);
        desk.setRoom(5, 1);
        desk.move(4, 25);
        Check.same("four differed", desk.reset(), 4);
        Check.same("as at first", Check.state(desk), first);
        desk.undo();
        Check.same("undone", desk.count(9), 4);
        desk.setAbsent(2, 4, true);
        desk.reset();
        Check.same("who is absent stays absent", desk.teacher(2, 2), 16);
        Check.same("none differs", desk.count(9), 0);
    }

    private static void resetOfExchanged() {
        SubstituteDesk desk = Check.school(DAYS);
        desk.exchange(0, 1);
        desk.exchange(1, 2);
        desk.move(6, 8);
        desk.setRoom(0, 1);
        Check.same("four differed", desk.reset(), 4);
        int[] slots = {5, 6, 11, 12, 24, 29, 6, 24};
        for (int i = 0; i < 8; i++) {
            Check.same("slot", desk.lesson(i, 0), slots[i]);
            Check.same("room", desk.lesson(i, 4), desk.lesson(i, 8));
        }
    }
}
