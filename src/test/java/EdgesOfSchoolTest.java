import java.util.NoSuchElementException;

/** Promises 1 and 29 to 44 and sections 1, 5 and 8: each boundary that a sentence names, and what lies beside it. */
public final class EdgesOfSchoolTest {
    private static final int NONE = SubstituteDesk.NONE;
    /** All that a school can have most of: 5 days, 6 periods, 6 subjects, 8 teachers, 6 rooms, 6 classes. */
    private static final String LARGEST = "grid 5 6;subject 3;subject 0;subject 0;subject 0;subject 1;subject 2;"
            + "teacher 9 0 1 2 3 4 5;" + "teacher 0 0;".repeat(6) + "teacher 3 5;"
            + "room 3;room 0;room 0;room 1;room 0;room 2;classes 6;lesson 0 0 0 1 0;lesson 29 5 5 7 5;lesson 5 5 0 1 0;"
            + "lesson 6 0 5 7 5;";
    private static final String SMALLEST = "grid 1 1;subject 0;teacher 0 0;room 0;classes 1;lesson 0 0 0 0 0;";

    public static void main(String[] args) {
        newObjects();
        numbersOfThings();
        properties();
        orderOfExceptions();
        largestSchool();
        smallestSchool();
        countsOfStates();
        differences();
        loads();
        roomsAndSubjects();
        whereAndFree();
        openAndDifferent();
        windowsOfTeachers();
        windowsOfClasses();
        windowsOfEachPattern();
        spread();
        taughtShare();
        Check.end();
    }

    /** Section 8: the school before the first correct school text. */
    private static void newObjects() {
        SubstituteDesk fresh = new SubstituteDesk();
        SubstituteDesk read = Check.school("grid 1 2; subject 0; teacher 2 0; teacher 2 0; room 0; classes 1; "
                + "lesson 0 0 0 0 0;");
        Check.same("the state", Check.state(fresh), Check.state(read));
        Check.same("the report", Check.report(fresh, 0), "0.0 -\n");
        Check.parse(fresh, "grid 5 6;");
        Check.same("after a wrong text", Check.state(fresh), Check.state(read));
        Check.same("a constant", SubstituteDesk.NONE, -1);
        Check.numbered("lesson", 1, k -> fresh.lesson(k, 0));
        Check.numbered("teacher", 2, k -> fresh.teacher(k, 0));
        Check.numbered("room", 1, k -> fresh.room(k, 0));
        Check.numbered("subject", 1, k -> fresh.subject(k, 0));
        Check.numbered("slot", 2, k -> fresh.freeTeachers(k));
        Check.numbered("class", 1, k -> fresh.lessonOfClass(0, k));
        Check.numbered("day", 1, k -> fresh.windows(0, k));
        Check.refused("the report is empty", IndexOutOfBoundsException.class,
                () -> new SubstituteDesk().reportByte(0));
        Check.refused("no undo", IllegalStateException.class, () -> new SubstituteDesk().undo());
    }

    private static void numbersOfThings() {
        for (String text : new String[] {LARGEST, SMALLEST}) {
            SubstituteDesk desk = Check.school(text);
            boolean isLarge = text.equals(LARGEST);
            int slots = isLarge ? 30 : 1;
            int days = isLarge ? 5 : 1;
            int teachers = isLarge ? 8 : 1;
            int six = isLarge ? 6 : 1;
            Check.numbered("lesson", isLarge ? 4 : 1, k -> desk.lesson(k, 0));
            Check.numbered("teacher", teachers, k -> desk.teacher(k, 0));
            Check.numbered("room", six, k -> desk.room(k, 0));
            Check.numbered("subject", six, k -> desk.subject(k, 0));
            Check.numbered("lessonOfClass slot", slots, k -> desk.lessonOfClass(k, 0));
            Check.numbered("lessonOfClass class", six, k -> desk.lessonOfClass(0, k));
            Check.numbered("lessonOfTeacher slot", slots, k -> desk.lessonOfTeacher(k, 0));
            Check.numbered("lessonOfTeacher teacher", teachers, k -> desk.lessonOfTeacher(0, k));
            Check.numbered("lessonInRoom slot", slots, k -> desk.lessonInRoom(k, 0));
            Check.numbered("lessonInRoom room", six, k -> desk.lessonInRoom(0, k));
            Check.numbered("freeTeachers", slots, desk::freeTeachers);
            Check.numbered("freeRooms", slots, k -> desk.freeRooms(k, 0));
            Check.numbered("windows teacher", teachers, k -> desk.windows(k, 0));
            Check.numbered("windows day", days, k -> desk.windows(0, k));
            Check.numbered("classWindows class", six, k -> desk.classWindows(k, 0));
            Check.numbered("classWindows day", days, k -> desk.classWindows(0, k));
        }
    }

    private static void properties() {
        for (String text : new String[] {LARGEST, SMALLEST}) {
            SubstituteDesk desk = Check.school(text);
            Check.properties("count", 10, desk::count);
            Check.properties("lesson(0, ", 10, k -> desk.lesson(0, k));
            Check.properties("teacher(0, ", 7, k -> desk.teacher(0, k));
            Check.properties("room(0, ", 2, k -> desk.room(0, k));
            Check.properties("subject(0, ", 3, k -> desk.subject(0, k));
            Check.properties("freeRooms(0, ", 4, k -> desk.freeRooms(0, k));
        }
    }

    /** "The exceptions of a call are checked in the order of its throws clause." */
    private static void orderOfExceptions() {
        SubstituteDesk desk = Check.school(LARGEST);
        for (int bad : new int[] {-1, 10, 30, 100}) {
            Check.refused("lesson", IndexOutOfBoundsException.class, () -> desk.lesson(bad, 10));
            Check.refused("teacher", IndexOutOfBoundsException.class, () -> desk.teacher(bad, 7));
            Check.refused("room", IndexOutOfBoundsException.class, () -> desk.room(bad, 2));
            Check.refused("subject", IndexOutOfBoundsException.class, () -> desk.subject(bad, 3));
        }
        Check.refused("freeRooms(30, 4)", IndexOutOfBoundsException.class, () -> desk.freeRooms(30, 4));
        Check.refused("freeRooms(-1, -1)", IndexOutOfBoundsException.class, () -> desk.freeRooms(-1, -1));
        Check.refused("freeRooms(29, 4)", IllegalArgumentException.class, () -> desk.freeRooms(29, 4));
        Check.refused("cover of a taught one by nobody", IndexOutOfBoundsException.class, () -> desk.cover(0, 8));
        Check.refused("supervise of a taught one by nobody", IndexOutOfBoundsException.class,
                () -> desk.supervise(0, 8));
        Check.refused("exchange with none", IndexOutOfBoundsException.class, () -> desk.exchange(0, 4));
        Check.refused("move to no slot", IndexOutOfBoundsException.class, () -> desk.move(0, 30));
        Check.refused("setRoom of no room", IndexOutOfBoundsException.class, () -> desk.setRoom(0, 6));
        Check.refused("firstPartner of none", IndexOutOfBoundsException.class, () -> desk.firstPartner(4));
        Check.refused("chainTeacher of none", IndexOutOfBoundsException.class, () -> desk.chainTeacher(4, -1));
    }

    private static void largestSchool() {
        SubstituteDesk desk = Check.school(LARGEST);
        int[] counts = {5, 6, 6, 8, 6, 6, 4, 0, 0, 0};
        for (int what = 0; what < 10; what++) {
            Check.same("count(" + what + ")", desk.count(what), counts[what]);
        }
        int[] lesson = {29, 5, 5, 7, 5, 0, 29, 7, 5, 0};
        for (int what = 0; what < 10; what++) {
            Check.same("lesson(1, " + what + ")", desk.lesson(1, what), lesson[what]);
        }
        int[] first = {9, 63, 0, 0, 0, 0, 0};
        int[] last = {3, 32, 0, 2, 0, 0, 2};
        for (int what = 0; what < 7; what++) {
            Check.same("teacher(0, " + what + ")", desk.teacher(0, what), first[what]);
            Check.same("teacher(7, " + what + ")", desk.teacher(7, what), last[what]);
        }
        Check.same("qualified for the first subject", desk.subject(0, 1), 127);
        Check.same("qualified for the last subject", desk.subject(5, 1), 129);
        Check.same("qualified for one between", desk.subject(3, 1), 1);
        Check.same("kinds of subjects", desk.subject(0, 0) * 100 + desk.subject(4, 0) * 10 + desk.subject(5, 0), 312);
        Check.same("kinds of rooms", desk.room(0, 0) * 100 + desk.room(3, 0) * 10 + desk.room(5, 0), 312);
        Check.same("lessons of subjects", desk.subject(0, 2) * 100 + desk.subject(1, 2) * 10 + desk.subject(5, 2), 202);
        Check.same("lessons of rooms", desk.room(0, 1) * 100 + desk.room(1, 1) * 10 + desk.room(5, 1), 202);
        for (int day = 0; day < 5; day++) {
            desk.setAbsent(7, day, true);
            Check.same("days of absence", desk.teacher(7, 2), (2 << day) - 1);
        }
        desk.setAbsent(7, 0, false);
        desk.setAbsent(7, 4, false);
        Check.same("days of absence", desk.teacher(7, 2), 14);
    }

    private static void smallestSchool() {
        SubstituteDesk desk = Check.school(SMALLEST);
        int[] counts = {1, 1, 1, 1, 1, 1, 1, 0, 0, 0};
        for (int what = 0; what < 10; what++) {
            Check.same("count(" + what + ")", desk.count(what), counts[what]);
        }
        Check.same("windows", desk.windows(0, 0) + desk.classWindows(0, 0), 0);
        Check.same("free", desk.freeTeachers(0) + desk.freeRooms(0, 0), 0);
        Check.same("opened", desk.setAbsent(0, 0, true), 1);
        Check.same("none is present", desk.freeTeachers(0), 0);
        Check.same("chain", desk.chain(0), 0);
        desk.setAbsent(0, 0, false);
        Check.same("free", desk.freeTeachers(0), 1);
        Check.same("repaired", desk.repairAll(), 1);
        SubstituteDesk none = Check.school("grid 1 1;subject 0;teacher 0 0;room 0;classes 1;");
        Check.same("no lesson", none.count(6) + none.count(7) + none.count(8) + none.count(9), 0);
        Check.same("all is free", none.freeTeachers(0) * 10 + none.freeRooms(0, 0), 11);
        Check.same("nowhere", none.lessonOfClass(0, 0) + none.lessonOfTeacher(0, 0) + none.lessonInRoom(0, 0), 3 * NONE);
        Check.same("no load", none.teacher(0, 3) + none.teacher(0, 4) + none.teacher(0, 6) + none.spread(), 0);
    }

    /** A lesson is either taught or supervised or open. */
    private static void countsOfStates() {
        SubstituteDesk desk = Check.school("grid 1 4;subject 0;teacher 9 0;teacher 9 0;room 0;classes 1;lesson 0 0 0 0 0;"
                + "lesson 1 0 0 0 0;lesson 2 0 0 0 0;lesson 3 0 0 0 0;");
        for (int open = 1; open <= 4; open++) {
            desk.reopen(open - 1);
            Check.same("open", desk.count(7), open);
            Check.same("supervised", desk.count(8), 0);
            Check.same("different", desk.count(9), open);
            Check.same("taught", desk.taughtShare(), (4 - open) / 4.0);
        }
        desk.supervise(0, 1);
        desk.supervise(1, 0);
        desk.cover(2, 1);
        desk.cover(3, 0);
        Check.same("open", desk.count(7), 0);
        Check.same("supervised", desk.count(8), 2);
        Check.same("different, but not the last one", desk.count(9), 3);
        Check.same("taught", desk.taughtShare(), 0.5);
    }

    /** "if its slot, its teacher, its room or whether it is supervised is not as in the first timetable" */
    private static void differences() {
        SubstituteDesk desk = Check.school("grid 1 2;subject 0;teacher 9 0;teacher 9 0;room 0;room 0;classes 1;"
                + "lesson 0 0 0 0 0;");
        Check.same("as at first", desk.lesson(0, 9), 0);
        desk.move(0, 1);
        Check.same("the slot alone", desk.lesson(0, 9), 1);
        desk.setRoom(0, 1);
        desk.move(0, 0);
        Check.same("the room alone", desk.lesson(0, 9), 1);
        desk.setRoom(0, 0);
        Check.same("as at first", desk.lesson(0, 9), 0);
        desk.reopen(0);
        Check.same("no teacher", desk.lesson(0, 9), 1);
        desk.supervise(0, 0);
        Check.same("supervised by the first teacher", desk.lesson(0, 9), 1);
        desk.cover(0, 1);
        Check.same("another teacher alone", desk.lesson(0, 9), 1);
        desk.reopen(0);
        desk.cover(0, 0);
        Check.same("as at first", desk.lesson(0, 9), 0);
        desk.setAbsent(1, 0, true);
        Check.same("absence is no difference", desk.count(9), 0);
        Check.same("the first timetable stays", desk.lesson(0, 6) + desk.lesson(0, 7) + desk.lesson(0, 8), 0);
    }

    /** "the number of lessons that the teacher teaches now minus the number in the first timetable" */
    private static void loads() {
        SubstituteDesk desk = Check.school("grid 1 4;subject 0;teacher 9 0;teacher 9 0;room 0;classes 1;lesson 0 0 0 0 0;"
                + "lesson 1 0 0 0 0;lesson 2 0 0 1 0;");
        desk.reopen(0);
        desk.supervise(0, 0);
        Check.same("who supervises does not teach", desk.teacher(0, 3) * 10 + desk.teacher(0, 5), 11);
        Check.same("load", desk.teacher(0, 4), -1);
        Check.same("at first", desk.teacher(0, 6), 2);
        desk.cover(0, 1);
        Check.same("one more", desk.teacher(1, 3) * 10 + desk.teacher(1, 4), 21);
        desk.reopen(2);
        Check.same("another's in place of the own", desk.teacher(1, 3) * 10 + desk.teacher(1, 4), 10);
        desk.cover(2, 0);
        Check.same("the other way", desk.teacher(0, 3) * 10 + desk.teacher(0, 4), 20);
        desk.move(2, 3);
        Check.same("moved", desk.teacher(0, 4), 0);
    }

    /** "the number of its lessons now" and "its lessons", open ones too */
    private static void roomsAndSubjects() {
        SubstituteDesk desk = Check.school("grid 1 4;subject 0;subject 0;teacher 9 0 1;room 0;room 0;classes 1;"
                + "lesson 0 0 0 0 0;lesson 1 0 0 0 0;lesson 2 0 1 0 0;");
        for (int moved = 0; moved <= 3; moved++) {
            Check.same("rooms", desk.room(0, 1) * 10 + desk.room(1, 1), (3 - moved) * 10 + moved);
            Check.same("subjects", desk.subject(0, 2) * 10 + desk.subject(1, 2), 21);
            if (moved < 3) {
                desk.reopen(moved);
                desk.setRoom(moved, 1);
            }
        }
    }

    private static void whereAndFree() {
        SubstituteDesk desk = Check.school(LARGEST);
        for (int slot = 0; slot < 30; slot++) {
            int first = slot == 0 ? 0 : slot == 6 ? 3 : NONE;
            int last = slot == 29 ? 1 : slot == 5 ? 2 : NONE;
            Check.same("the first class", desk.lessonOfClass(slot, 0), first);
            Check.same("the last class", desk.lessonOfClass(slot, 5), last);
            Check.same("the last teacher", desk.lessonOfTeacher(slot, 7), slot == 29 ? 1 : slot == 6 ? 3 : NONE);
            Check.same("teacher 1", desk.lessonOfTeacher(slot, 1), slot == 0 ? 0 : slot == 5 ? 2 : NONE);
            Check.same("the first room", desk.lessonInRoom(slot, 0), slot == 0 ? 0 : slot == 5 ? 2 : NONE);
            Check.same("the last room", desk.lessonInRoom(slot, 5), slot == 29 ? 1 : slot == 6 ? 3 : NONE);
            boolean ofLast = slot == 29 || slot == 6;
            boolean ofFirst = slot == 0 || slot == 5;
            Check.same("freeTeachers", desk.freeTeachers(slot), ofLast ? 127 : ofFirst ? 253 : 255);
            Check.same("freeRooms of kind 0", desk.freeRooms(slot, 0), 0b010110);
            Check.same("freeRooms of kind 1", desk.freeRooms(slot, 1), 0b001000);
            Check.same("freeRooms of kind 2", desk.freeRooms(slot, 2), ofLast ? 0 : 0b100000);
            Check.same("freeRooms of kind 3", desk.freeRooms(slot, 3), ofFirst ? 0 : 1);
        }
        desk.setAbsent(0, 1, true);
        desk.setAbsent(7, 4, true);
        int[] slots = {5, 6, 11, 12, 23, 24, 29};
        int[] due = {253, 126, 254, 255, 255, 127, 127};
        for (int i = 0; i < slots.length; i++) {
            Check.same("freeTeachers(" + slots[i] + ") with absent ones", desk.freeTeachers(slots[i]), due[i]);
        }
        Check.same("an open lesson has no teacher", desk.lessonOfTeacher(29, 7), NONE);
        Check.same("but a class", desk.lessonOfClass(29, 5), 1);
        Check.same("and a room", desk.freeRooms(29, 2), 0);
        desk.supervise(1, 0);
        Check.same("who supervises is not free", desk.freeTeachers(29), 126);
        Check.same("who supervises is busy with it", desk.lessonOfTeacher(29, 0), 1);
    }

    private static void openAndDifferent() {
        SubstituteDesk desk = Check.school("grid 1 4;subject 0;teacher 9 0;teacher 9 0;room 0;room 0;classes 1;"
                + "lesson 0 0 0 0 0;lesson 1 0 0 0 0;lesson 2 0 0 0 0;lesson 3 0 0 0 0;");
        noSuch(desk, 0, 0);
        desk.reopen(3);
        Check.same("the last one", desk.openLesson(0) * 10 + desk.difference(0), 33);
        noSuch(desk, 1, 1);
        desk.reopen(0);
        Check.same("the lowest", desk.openLesson(0) + desk.difference(0), 0);
        Check.same("the next", desk.openLesson(1) * 10 + desk.difference(1), 33);
        noSuch(desk, 2, 2);
        desk.supervise(0, 1);
        desk.setRoom(2, 1);
        Check.same("supervised ones are not open", desk.openLesson(0), 3);
        Check.same("they differ", desk.difference(0) * 100 + desk.difference(1) * 10 + desk.difference(2), 23);
        noSuch(desk, 1, 3);
        desk.reopen(0);
        desk.reopen(1);
        desk.reopen(2);
        for (int i = 0; i < 4; i++) {
            Check.same("all four", desk.openLesson(i) * 10 + desk.difference(i), 11 * i);
        }
        noSuch(desk, 4, 4);
    }

    private static void noSuch(SubstituteDesk desk, int open, int different) {
        for (int bad : new int[] {-1, open, open + 1, 40, Integer.MIN_VALUE, Integer.MAX_VALUE}) {
            Check.refused("openLesson(" + bad + ")", NoSuchElementException.class, () -> desk.openLesson(bad));
        }
        for (int bad : new int[] {-1, different, different + 1, 40, Integer.MIN_VALUE, Integer.MAX_VALUE}) {
            Check.refused("difference(" + bad + ")", NoSuchElementException.class, () -> desk.difference(bad));
        }
    }

    // ---- windows

    /** "busy in an earlier and in a later period of the day": lessons of the days beside it do not matter. */
    private static void windowsOfTeachers() {
        SubstituteDesk desk = Check.school("grid 3 3;subject 0;teacher 9 0;teacher 9 0;room 0;classes 1;lesson 2 0 0 0 0;"
                + "lesson 4 0 0 0 0;lesson 6 0 0 0 0;");
        for (int day = 0; day < 3; day++) {
            Check.same("one lesson on day " + day, desk.windows(0, day), 0);
            Check.same("none on day " + day, desk.windows(1, day), 0);
        }
        desk.move(0, 3);
        Check.same("two beside each other", desk.windows(0, 1), 0);
        desk.move(1, 5);
        Check.same("first and last", desk.windows(0, 1), 1);
        desk.move(2, 4);
        Check.same("all three", desk.windows(0, 1), 0);
        desk.reopen(2);
        Check.same("the one between is open", desk.windows(0, 1), 1);
        desk.supervise(2, 0);
        Check.same("it is supervised", desk.windows(0, 1), 0);
        desk.reopen(1);
        Check.same("none later", desk.windows(0, 1), 0);
        desk.reopen(2);
        desk.supervise(2, 1);
        desk.supervise(1, 0);
        Check.same("taught and supervised by turns", desk.windows(0, 1) * 10 + desk.windows(1, 1), 10);
    }

    private static void windowsOfClasses() {
        SubstituteDesk desk = Check.school("grid 2 4;subject 0;teacher 9 0;teacher 9 0;room 0;room 0;classes 3;"
                + "lesson 3 0 0 0 0;lesson 4 0 0 0 0;lesson 7 0 0 0 0;lesson 5 1 0 1 1;lesson 6 1 0 1 1;");
        Check.same("one lesson", desk.classWindows(0, 0), 0);
        Check.same("first and last", desk.classWindows(0, 1), 2);
        Check.same("two beside each other", desk.classWindows(1, 1), 0);
        Check.same("none", desk.classWindows(2, 1) + desk.classWindows(1, 0), 0);
        desk.reopen(1);
        desk.reopen(2);
        Check.same("open ones count", desk.classWindows(0, 1), 2);
        desk.move(1, 6);
        Check.same("beside each other then", desk.classWindows(0, 1), 0);
        desk.move(1, 5);
        Check.same("one between", desk.classWindows(0, 1), 1);
    }

    /** Each set of periods of a day of six: the gaps between the first and the last one. */
    private static void windowsOfEachPattern() {
        for (int set = 0; set < 64; set++) {
            StringBuilder text = new StringBuilder("grid 3 6;subject 0;teacher 9 0;room 0;classes 1;");
            int due = 0;
            for (int p = 0; p < 6; p++) {
                boolean isBusy = (set >> p & 1) == 1;
                boolean isEarlier = (set & (1 << p) - 1) != 0;
                boolean isLater = set >> p + 1 != 0;
                text.append(isBusy ? "lesson " + (6 + p) + " 0 0 0 0;" : "");
                due += !isBusy && isEarlier && isLater ? 1 : 0;
            }
            // those of the days beside it are neither earlier nor later ones of the day
            SubstituteDesk desk = Check.school(text + "lesson 5 0 0 0 0;lesson 12 0 0 0 0;");
            Check.same("windows of the set " + set, desk.windows(0, 1), due);
            Check.same("classWindows of the set " + set, desk.classWindows(0, 1), due);
        }
    }

    // ---- promises 43 and 44

    /** "of the teachers who are absent on no day"; "0 if there are no such teachers" */
    private static void spread() {
        SubstituteDesk desk = Check.school("grid 3 2;subject 0;teacher 9 0;teacher 9 0;teacher 9 0;room 0;classes 1;"
                + "lesson 0 0 0 0 0;lesson 1 0 0 0 0;lesson 2 0 0 0 0;lesson 3 0 0 1 0;");
        Check.same("equal loads", desk.spread(), 0);
        for (int i = 0; i < 3; i++) {
            desk.reopen(i);
            Check.same("the least below 0, the others 0", desk.spread(), i + 1);
        }
        desk.cover(0, 2);
        desk.cover(1, 2);
        Check.same("-3, 0 and 2", desk.spread(), 5);
        desk.reopen(3);
        desk.setAbsent(0, 2, true);
        Check.same("-1 and 2", desk.spread(), 3);
        desk.setAbsent(2, 2, true);
        Check.same("-1 alone", desk.spread(), 0);
        desk.setAbsent(1, 0, true);
        Check.same("nobody", desk.spread(), 0);
        desk.setAbsent(0, 2, false);
        Check.same("-3 alone", desk.spread(), 0);
        desk.setAbsent(2, 2, false);
        Check.same("-3 and 2", desk.spread(), 5);
        desk.setAbsent(2, 1, true);
        desk.setAbsent(1, 0, false);
        Check.same("-3 and -1, both below 0", desk.spread(), 2);
        for (int day = 0; day < 3; day++) {
            SubstituteDesk alone = new SubstituteDesk();
            alone.reopen(0);
            Check.same("two teachers", alone.spread(), 1);
            SubstituteDesk one = Check.school("grid 3 1;subject 0;teacher 0 0;room 0;classes 1;lesson 0 0 0 0 0;");
            one.reopen(0);
            one.setAbsent(0, day, true);
            Check.same("the only one is absent on day " + day, one.spread(), 0);
        }
    }

    /** "1.0 without lessons", and the quotient of two doubles otherwise */
    private static void taughtShare() {
        Check.same("without lessons", Check.school("grid 1 1;subject 0;teacher 0 0;room 0;classes 1;").taughtShare(),
                1.0);
        StringBuilder text = new StringBuilder("grid 5 6;subject 0;teacher 9 0;room 0;classes 1;");
        for (int number = 1; number <= 30; number++) {
            text.append("lesson ").append(number - 1).append(" 0 0 0 0;");
            SubstituteDesk desk = Check.school(text.toString());
            Check.same("all of " + number, desk.taughtShare(), 1.0);
            for (int open = 1; open <= number; open++) {
                desk.reopen(open - 1);
                Check.same("without " + open + " of " + number, desk.taughtShare(),
                        (double) (number - open) / (double) number);
            }
        }
        SubstituteDesk desk = new SubstituteDesk();
        desk.reopen(0);
        Check.same("open", desk.taughtShare(), 0.0);
        desk.supervise(0, 1);
        Check.same("supervised by one who is qualified", desk.taughtShare(), 0.0);
        desk.cover(0, 0);
        Check.same("taught", desk.taughtShare(), 1.0);
    }
}
