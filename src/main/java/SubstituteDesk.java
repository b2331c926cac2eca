import java.util.NoSuchElementException;

/** A desk for the repair of a school timetable when teachers are absent. */
public final class SubstituteDesk {
    public static final int NONE = -1;

    private static final int MAX_DAYS = 5;
    private static final int MAX_PERIODS = 6;
    private static final int MAX_SUBJECTS = 6;
    private static final int MAX_TEACHERS = 8;
    private static final int MAX_ROOMS = 6;
    private static final int MAX_CLASSES = 6;
    private static final int MAX_LESSONS = 40;
    private static final int MAX_KIND = 3;
    private static final int MAX_MOST = 9;
    private static final int MAX_CHAIN = 4;
    private static final int MAX_DUTIES_A_DAY = 2;
    private static final int MAX_UNDO = 10;
    private static final int MAX_TEXT = 900;
    private static final int CHARACTERS_AT_ONCE = 20;

    private final School school;
    private final Plan plan;
    private final Reasons reasons;
    private final Chains chains;
    private final Mender mender;
    private final History history;
    private final Words words;
    private final SchoolText schoolText;
    private final ScriptText scriptText;
    private final Report report;

    public SubstituteDesk() {
        school = new School();
        school.becomeSample();
        plan = new Plan(school);
        plan.begin();
        reasons = new Reasons(school, plan);
        chains = new Chains(school, plan);
        mender = new Mender(school, plan, reasons, chains);
        history = new History(plan);
        words = new Words();
        schoolText = new SchoolText(words);
        scriptText = new ScriptText(words);
        report = new Report(school, plan);
    }

    // ---- texts

    public int appendText(int a, int b, int c, int d, int e) throws IllegalStateException {
        if (words.length + CHARACTERS_AT_ONCE > MAX_TEXT) {
            throw new IllegalStateException("the text would be too long");
        }
        words.append(a);
        words.append(b);
        words.append(c);
        words.append(d);
        words.append(e);
        return words.length;
    }

    public int truncateText(int length) throws IllegalArgumentException {
        if (length < 0 || length > words.length) {
            throw new IllegalArgumentException("the text has no such length");
        }
        words.length = length;
        return length;
    }

    public int parseSchool() {
        boolean isCorrect = schoolText.read();
        words.length = 0;
        if (!isCorrect) {
            return NONE;
        }
        school.become(schoolText.draft);
        plan.begin();
        history.forget();
        return school.lessons;
    }

    public int runScript() {
        history.mark();
        words.begin();
        int steps = 0;
        boolean isRight = true;
        // a step has at least two characters, so no text has more steps than characters
        for (int i = 0; i < MAX_TEXT && isRight && words.kind != Words.END; i++) {
            isRight = scriptText.readStep();
            if (isRight && !mender.perform(scriptText.step, scriptText.first, scriptText.second)) {
                isRight = words.fail(6, scriptText.start);
            }
            words.next();
            steps++;
        }
        words.length = 0;
        if (!isRight) {
            history.restoreMarked();
            return NONE;
        }
        history.keepMarked();
        return steps;
    }

    public int errorCode() {
        return words.failure;
    }

    public int errorPosition() {
        return words.failedAt;
    }

    // ---- changes

    public int setAbsent(int teacher, int day, boolean isAbsent) throws IndexOutOfBoundsException {
        requireTeacher(teacher);
        requireDay(day);
        history.mark();
        int opened = mender.letBeAbsent(teacher, day, isAbsent);
        history.keepMarked();
        return opened;
    }

    public int cover(int lesson, int teacher) throws IndexOutOfBoundsException, IllegalStateException {
        requireLesson(lesson);
        requireTeacher(teacher);
        history.mark();
        keepUnlessRefused(mender.letCover(lesson, teacher));
        return plan.loadOf(teacher);
    }

    public int supervise(int lesson, int teacher) throws IndexOutOfBoundsException, IllegalStateException {
        requireLesson(lesson);
        requireTeacher(teacher);
        history.mark();
        keepUnlessRefused(mender.letSupervise(lesson, teacher));
        return plan.dutiesOf(teacher);
    }

    public int repair(int lesson) throws IndexOutOfBoundsException, IllegalStateException {
        requireLesson(lesson);
        history.mark();
        keepUnlessRefused(mender.repairByChain(lesson));
        return chains.length;
    }

    public int repairAll() {
        history.mark();
        int repaired = mender.repairOpenLessons();
        history.keepMarked();
        return repaired;
    }

    public int exchange(int lesson, int other) throws IndexOutOfBoundsException, IllegalStateException {
        requireLesson(lesson);
        requireLesson(other);
        history.mark();
        keepUnlessRefused(mender.swapSlots(lesson, other));
        return plan.slots.at(lesson);
    }

    public int move(int lesson, int slot) throws IndexOutOfBoundsException, IllegalStateException {
        requireLesson(lesson);
        requireSlot(slot);
        int before = plan.slots.at(lesson);
        history.mark();
        keepUnlessRefused(mender.moveToSlot(lesson, slot));
        return before;
    }

    public int setRoom(int lesson, int room) throws IndexOutOfBoundsException, IllegalStateException {
        requireLesson(lesson);
        requireRoom(room);
        int before = plan.rooms.at(lesson);
        history.mark();
        keepUnlessRefused(mender.moveToRoom(lesson, room));
        return before;
    }

    public int reopen(int lesson) throws IndexOutOfBoundsException, IllegalStateException {
        requireLesson(lesson);
        int before = plan.teachers.at(lesson);
        history.mark();
        keepUnlessRefused(mender.openAgain(lesson));
        return before;
    }

    public int reset() {
        int differing = plan.differingLessons();
        history.mark();
        plan.returnToFirst();
        history.keepMarked();
        return differing;
    }

    // ---- reasons

    public int whyNotCover(int lesson, int teacher) throws IndexOutOfBoundsException {
        requireLesson(lesson);
        requireTeacher(teacher);
        return reasons.againstCover(lesson, teacher);
    }

    public int whyNotSupervise(int lesson, int teacher) throws IndexOutOfBoundsException {
        requireLesson(lesson);
        requireTeacher(teacher);
        return reasons.againstSupervision(lesson, teacher);
    }

    public int whyNotExchange(int lesson, int other) throws IndexOutOfBoundsException {
        requireLesson(lesson);
        requireLesson(other);
        return reasons.againstExchange(lesson, other);
    }

    public int whyNotMove(int lesson, int slot) throws IndexOutOfBoundsException {
        requireLesson(lesson);
        requireSlot(slot);
        return reasons.againstMove(lesson, slot);
    }

    public int whyNotRoom(int lesson, int room) throws IndexOutOfBoundsException {
        requireLesson(lesson);
        requireRoom(room);
        return reasons.againstRoom(lesson, room);
    }

    public int candidates(int lesson) throws IndexOutOfBoundsException {
        requireLesson(lesson);
        int mask = 0;
        for (int k = 0; k < school.teachers; k++) {
            if (reasons.againstCover(lesson, k) == 0) {
                mask |= 1 << k;
            }
        }
        return mask;
    }

    public int chain(int lesson) throws IndexOutOfBoundsException {
        requireLesson(lesson);
        return chains.find(lesson);
    }

    public int chainTeacher(int lesson, int index) throws IndexOutOfBoundsException, NoSuchElementException {
        requireLesson(lesson);
        int length = chains.find(lesson);
        if (index < 0 || index >= length) {
            throw new NoSuchElementException("the chain has no such teacher");
        }
        return chains.members.at(index);
    }

    public int partners(int lesson) throws IndexOutOfBoundsException {
        requireLesson(lesson);
        int number = 0;
        for (int i = 0; i < school.lessons; i++) {
            if (reasons.againstExchange(lesson, i) == 0) {
                number++;
            }
        }
        return number;
    }

    public int firstPartner(int lesson) throws IndexOutOfBoundsException, NoSuchElementException {
        requireLesson(lesson);
        for (int i = 0; i < school.lessons; i++) {
            if (reasons.againstExchange(lesson, i) == 0) {
                return i;
            }
        }
        throw new NoSuchElementException("no lesson can be exchanged with it");
    }

    public int slotsFor(int lesson) throws IndexOutOfBoundsException {
        requireLesson(lesson);
        int mask = 0;
        for (int k = 0; k < school.slots(); k++) {
            if (reasons.againstMove(lesson, k) == 0) {
                mask |= 1 << k;
            }
        }
        return mask;
    }

    // ---- school

    public int count(int what) throws IllegalArgumentException {
        switch (what) {
            case 0: return school.days;
            case 1: return school.periods;
            case 2: return school.subjects;
            case 3: return school.teachers;
            case 4: return school.rooms;
            case 5: return school.classes;
            case 6: return school.lessons;
            case 7: return plan.openLessons();
            case 8: return plan.supervisedLessons();
            case 9: return plan.differingLessons();
            default: throw new IllegalArgumentException("there is no such count");
        }
    }

    public int lesson(int lesson, int what) throws IndexOutOfBoundsException, IllegalArgumentException {
        requireLesson(lesson);
        switch (what) {
            case 0: return plan.slots.at(lesson);
            case 1: return school.lessonClass.at(lesson);
            case 2: return school.lessonSubject.at(lesson);
            case 3: return plan.teachers.at(lesson);
            case 4: return plan.rooms.at(lesson);
            case 5: return plan.isSupervised(lesson) ? 1 : 0;
            case 6: return school.firstSlot.at(lesson);
            case 7: return school.firstTeacher.at(lesson);
            case 8: return school.firstRoom.at(lesson);
            case 9: return plan.differs(lesson) ? 1 : 0;
            default: throw new IllegalArgumentException("a lesson has no such property");
        }
    }

    public int teacher(int teacher, int what) throws IndexOutOfBoundsException, IllegalArgumentException {
        requireTeacher(teacher);
        switch (what) {
            case 0: return school.teacherMost.at(teacher);
            case 1: return school.teacherSubjects.at(teacher);
            case 2: return plan.absences.at(teacher);
            case 3: return plan.taughtBy(teacher);
            case 4: return plan.loadOf(teacher);
            case 5: return plan.dutiesOf(teacher);
            case 6: return school.lessonsWith(school.firstTeacher, teacher);
            default: throw new IllegalArgumentException("a teacher has no such property");
        }
    }

    public int room(int room, int what) throws IndexOutOfBoundsException, IllegalArgumentException {
        requireRoom(room);
        switch (what) {
            case 0: return school.roomKind.at(room);
            case 1: return school.lessonsWith(plan.rooms, room);
            default: throw new IllegalArgumentException("a room has no such property");
        }
    }

    public int subject(int subject, int what) throws IndexOutOfBoundsException, IllegalArgumentException {
        if (subject < 0 || subject >= school.subjects) {
            throw new IndexOutOfBoundsException("there is no such subject");
        }
        switch (what) {
            case 0: return school.subjectKind.at(subject);
            case 1: return school.qualifiedFor(subject);
            case 2: return school.lessonsWith(school.lessonSubject, subject);
            default: throw new IllegalArgumentException("a subject has no such property");
        }
    }

    public int lessonOfClass(int slot, int group) throws IndexOutOfBoundsException {
        requireSlot(slot);
        requireClass(group);
        return plan.lessonAt(slot, school.lessonClass, group);
    }

    public int lessonOfTeacher(int slot, int teacher) throws IndexOutOfBoundsException {
        requireSlot(slot);
        requireTeacher(teacher);
        return plan.lessonAt(slot, plan.teachers, teacher);
    }

    public int lessonInRoom(int slot, int room) throws IndexOutOfBoundsException {
        requireSlot(slot);
        requireRoom(room);
        return plan.lessonAt(slot, plan.rooms, room);
    }

    public int freeTeachers(int slot) throws IndexOutOfBoundsException {
        requireSlot(slot);
        int mask = 0;
        for (int k = 0; k < school.teachers; k++) {
            if (!plan.isAwayAt(k, slot) && plan.lessonAt(slot, plan.teachers, k) == NONE) {
                mask |= 1 << k;
            }
        }
        return mask;
    }

    public int freeRooms(int slot, int kind) throws IndexOutOfBoundsException, IllegalArgumentException {
        requireSlot(slot);
        if (kind < 0 || kind > MAX_KIND) {
            throw new IllegalArgumentException("there is no such kind of rooms");
        }
        int mask = 0;
        for (int k = 0; k < school.rooms; k++) {
            if (school.roomKind.at(k) == kind && plan.lessonAt(slot, plan.rooms, k) == NONE) {
                mask |= 1 << k;
            }
        }
        return mask;
    }

    public int openLesson(int index) throws NoSuchElementException {
        int before = 0;
        for (int i = 0; i < school.lessons; i++) {
            if (plan.isOpen(i)) {
                if (before == index) {
                    return i;
                }
                before++;
            }
        }
        throw new NoSuchElementException("there is no such open lesson");
    }

    public int difference(int index) throws NoSuchElementException {
        int before = 0;
        for (int i = 0; i < school.lessons; i++) {
            if (plan.differs(i)) {
                if (before == index) {
                    return i;
                }
                before++;
            }
        }
        throw new NoSuchElementException("there is no such difference");
    }

    public int windows(int teacher, int day) throws IndexOutOfBoundsException {
        requireTeacher(teacher);
        requireDay(day);
        return plan.windowsOf(plan.teachers, teacher, day);
    }

    public int classWindows(int group, int day) throws IndexOutOfBoundsException {
        requireClass(group);
        requireDay(day);
        return plan.windowsOf(school.lessonClass, group, day);
    }

    public int spread() {
        boolean isAnyone = false;
        int least = 0;
        int greatest = 0;
        for (int k = 0; k < school.teachers; k++) {
            if (plan.absences.at(k) == 0) {
                int load = plan.loadOf(k);
                least = isAnyone ? Math.min(least, load) : load;
                greatest = isAnyone ? Math.max(greatest, load) : load;
                isAnyone = true;
            }
        }
        return greatest - least;
    }

    public double taughtShare() {
        if (school.lessons <= 0) {
            return 1.0;
        }
        return (double) plan.taughtLessons() / (double) school.lessons;
    }

    // ---- report, undo

    public int writeReport(int group) throws IndexOutOfBoundsException {
        requireClass(group);
        report.write(group);
        return report.length;
    }

    public int reportByte(int index) throws IndexOutOfBoundsException {
        if (index < 0 || index >= report.length) {
            throw new IndexOutOfBoundsException("the report has no such byte");
        }
        return report.bytes.at(index);
    }

    public int undo() throws IllegalStateException {
        if (history.depth <= 0) {
            throw new IllegalStateException("there is nothing to undo");
        }
        history.restoreLatest();
        return history.depth;
    }

    public int undoDepth() {
        return history.depth;
    }

    // ---- checks of arguments

    private void requireLesson(int number) {
        if (!school.hasLesson(number)) {
            throw new IndexOutOfBoundsException("there is no such lesson");
        }
    }

    private void requireTeacher(int number) {
        if (!school.hasTeacher(number)) {
            throw new IndexOutOfBoundsException("there is no such teacher");
        }
    }

    private void requireDay(int number) {
        if (!school.hasDay(number)) {
            throw new IndexOutOfBoundsException("there is no such day");
        }
    }

    private void requireSlot(int number) {
        if (!school.hasSlot(number)) {
            throw new IndexOutOfBoundsException("there is no such slot");
        }
    }

    private void requireRoom(int number) {
        if (!school.hasRoom(number)) {
            throw new IndexOutOfBoundsException("there is no such room");
        }
    }

    private void requireClass(int number) {
        if (number < 0 || number >= school.classes) {
            throw new IndexOutOfBoundsException("there is no such class");
        }
    }

    private void keepUnlessRefused(boolean isDone) {
        if (!isDone) {
            throw new IllegalStateException("it is refused");
        }
        history.keepMarked();
    }

    private static boolean hasBit(int mask, int bit) {
        return bit >= 0 && bit < 31 && (mask >> bit & 1) == 1;
    }

    /** Numbers in a row; an index outside of it answers NONE, so that none can make the machine throw. */
    private static final class Row {
        private final int[] cells;

        Row(int length) {
            cells = new int[length > 0 ? length : 0];
        }

        int at(int index) {
            return index >= 0 && index < cells.length ? cells[index] : NONE;
        }

        void put(int index, int value) {
            if (index >= 0 && index < cells.length) {
                cells[index] = value;
            }
        }

        void become(Row other) {
            for (int i = 0; i < cells.length; i++) {
                cells[i] = other.at(i);
            }
        }
    }

    /** What a school text tells; none of it changes before the next school text. */
    private static final class School {
        int days;
        int periods;
        int subjects;
        int teachers;
        int rooms;
        int classes;
        int lessons;
        final Row subjectKind = new Row(MAX_SUBJECTS);
        final Row teacherMost = new Row(MAX_TEACHERS);
        final Row teacherSubjects = new Row(MAX_TEACHERS);
        final Row roomKind = new Row(MAX_ROOMS);
        final Row lessonClass = new Row(MAX_LESSONS);
        final Row lessonSubject = new Row(MAX_LESSONS);
        final Row firstSlot = new Row(MAX_LESSONS);
        final Row firstTeacher = new Row(MAX_LESSONS);
        final Row firstRoom = new Row(MAX_LESSONS);

        void becomeEmpty() {
            days = 0;
            periods = 0;
            subjects = 0;
            teachers = 0;
            rooms = 0;
            classes = 0;
            lessons = 0;
        }

        void becomeSample() {
            becomeEmpty();
            days = 1;
            periods = 2;
            addSubject(0);
            addTeacher(2, 1);
            addTeacher(2, 1);
            addRoom(0);
            classes = 1;
            addLesson(0, 0, 0, 0, 0);
        }

        void become(School other) {
            days = other.days;
            periods = other.periods;
            subjects = other.subjects;
            teachers = other.teachers;
            rooms = other.rooms;
            classes = other.classes;
            lessons = other.lessons;
            subjectKind.become(other.subjectKind);
            teacherMost.become(other.teacherMost);
            teacherSubjects.become(other.teacherSubjects);
            roomKind.become(other.roomKind);
            lessonClass.become(other.lessonClass);
            lessonSubject.become(other.lessonSubject);
            firstSlot.become(other.firstSlot);
            firstTeacher.become(other.firstTeacher);
            firstRoom.become(other.firstRoom);
        }

        void addSubject(int kind) {
            subjectKind.put(subjects, kind);
            subjects++;
        }

        void addTeacher(int most, int subjectMask) {
            teacherMost.put(teachers, most);
            teacherSubjects.put(teachers, subjectMask);
            teachers++;
        }

        void addRoom(int kind) {
            roomKind.put(rooms, kind);
            rooms++;
        }

        void addLesson(int slot, int group, int subject, int teacher, int room) {
            firstSlot.put(lessons, slot);
            lessonClass.put(lessons, group);
            lessonSubject.put(lessons, subject);
            firstTeacher.put(lessons, teacher);
            firstRoom.put(lessons, room);
            lessons++;
        }

        int slots() {
            return days * periods;
        }

        int dayOf(int slot) {
            return periods > 0 ? slot / periods : NONE;
        }

        boolean hasLesson(int number) {
            return number >= 0 && number < lessons;
        }

        boolean hasTeacher(int number) {
            return number >= 0 && number < teachers;
        }

        boolean hasDay(int number) {
            return number >= 0 && number < days;
        }

        boolean hasSlot(int number) {
            return number >= 0 && number < slots();
        }

        boolean hasRoom(int number) {
            return number >= 0 && number < rooms;
        }

        boolean isQualified(int teacher, int subject) {
            return hasTeacher(teacher) && hasBit(teacherSubjects.at(teacher), subject);
        }

        int qualifiedFor(int subject) {
            int mask = 0;
            for (int k = 0; k < teachers; k++) {
                if (hasBit(teacherSubjects.at(k), subject)) {
                    mask |= 1 << k;
                }
            }
            return mask;
        }

        /** How many lessons have this number in a row that has a number for each lesson. */
        int lessonsWith(Row row, int number) {
            int found = 0;
            for (int i = 0; i < lessons; i++) {
                if (row.at(i) == number) {
                    found++;
                }
            }
            return found;
        }

        boolean isTakenAtFirst(int slot, Row row, int number) {
            for (int i = 0; i < lessons; i++) {
                if (firstSlot.at(i) == slot && row.at(i) == number) {
                    return true;
                }
            }
            return false;
        }
    }

    /** The state: where the lessons are now, who has them, and who is absent. */
    private static final class Plan {
        final School school;
        final Row slots = new Row(MAX_LESSONS);
        final Row teachers = new Row(MAX_LESSONS);
        final Row rooms = new Row(MAX_LESSONS);
        final Row supervised = new Row(MAX_LESSONS);
        final Row absences = new Row(MAX_TEACHERS);

        Plan(School school) {
            this.school = school;
        }

        void begin() {
            for (int k = 0; k < MAX_TEACHERS; k++) {
                absences.put(k, 0);
            }
            returnToFirst();
        }

        void returnToFirst() {
            for (int i = 0; i < school.lessons; i++) {
                int slot = school.firstSlot.at(i);
                int teacher = school.firstTeacher.at(i);
                slots.put(i, slot);
                rooms.put(i, school.firstRoom.at(i));
                teachers.put(i, isAwayAt(teacher, slot) ? NONE : teacher);
                supervised.put(i, 0);
            }
        }

        void letTeach(int lesson, int teacher) {
            teachers.put(lesson, teacher);
            supervised.put(lesson, 0);
        }

        void letWatch(int lesson, int teacher) {
            teachers.put(lesson, teacher);
            supervised.put(lesson, 1);
        }

        void makeOpen(int lesson) {
            teachers.put(lesson, NONE);
            supervised.put(lesson, 0);
        }

        boolean isOpen(int lesson) {
            return teachers.at(lesson) == NONE;
        }

        boolean isSupervised(int lesson) {
            return supervised.at(lesson) == 1;
        }

        // only those who are qualified ever get a lesson without supervising it
        boolean isTaught(int lesson) {
            return teachers.at(lesson) != NONE && supervised.at(lesson) == 0;
        }

        boolean isAway(int teacher, int day) {
            return hasBit(absences.at(teacher), day);
        }

        boolean isAwayAt(int teacher, int slot) {
            return isAway(teacher, school.dayOf(slot));
        }

        boolean differs(int lesson) {
            return slots.at(lesson) != school.firstSlot.at(lesson)
                    || teachers.at(lesson) != school.firstTeacher.at(lesson)
                    || rooms.at(lesson) != school.firstRoom.at(lesson)
                    || isSupervised(lesson);
        }

        /** The lesson in a slot that has this number in a row that has a number for each lesson. */
        int lessonAt(int slot, Row row, int number) {
            for (int i = 0; i < school.lessons; i++) {
                if (slots.at(i) == slot && row.at(i) == number) {
                    return i;
                }
            }
            return NONE;
        }

        int windowsOf(Row row, int number, int day) {
            int first = NONE;
            int last = NONE;
            int busy = 0;
            for (int p = 0; p < school.periods; p++) {
                if (lessonAt(day * school.periods + p, row, number) != NONE) {
                    first = first == NONE ? p : first;
                    last = p;
                    busy++;
                }
            }
            return busy == 0 ? 0 : last - first + 1 - busy;
        }

        int taughtBy(int teacher) {
            int found = 0;
            for (int i = 0; i < school.lessons; i++) {
                if (teachers.at(i) == teacher && supervised.at(i) == 0) {
                    found++;
                }
            }
            return found;
        }

        int loadOf(int teacher) {
            int load = 0;
            for (int i = 0; i < school.lessons; i++) {
                if (teachers.at(i) == teacher && supervised.at(i) == 0) {
                    load++;
                }
                if (school.firstTeacher.at(i) == teacher) {
                    load--;
                }
            }
            return load;
        }

        int dutiesOf(int teacher) {
            int found = 0;
            for (int i = 0; i < school.lessons; i++) {
                if (teachers.at(i) == teacher && isSupervised(i)) {
                    found++;
                }
            }
            return found;
        }

        int dutiesOn(int teacher, int day) {
            int found = 0;
            for (int i = 0; i < school.lessons; i++) {
                if (teachers.at(i) == teacher && isSupervised(i) && school.dayOf(slots.at(i)) == day) {
                    found++;
                }
            }
            return found;
        }

        int openLessons() {
            return school.lessonsWith(teachers, NONE);
        }

        int supervisedLessons() {
            return school.lessonsWith(supervised, 1);
        }

        int taughtLessons() {
            return school.lessons - openLessons() - supervisedLessons();
        }

        int differingLessons() {
            int found = 0;
            for (int i = 0; i < school.lessons; i++) {
                if (differs(i)) {
                    found++;
                }
            }
            return found;
        }
    }

    /** Why a change is refused, by the numbers of the document; 0 if it is not. */
    private static final class Reasons {
        final School school;
        final Plan plan;

        Reasons(School school, Plan plan) {
            this.school = school;
            this.plan = plan;
        }

        int againstCover(int lesson, int teacher) {
            int slot = plan.slots.at(lesson);
            if (plan.isTaught(lesson)) {
                return 1;
            }
            if (plan.isAwayAt(teacher, slot)) {
                return 2;
            }
            if (!school.isQualified(teacher, school.lessonSubject.at(lesson))) {
                return 3;
            }
            if (isBusy(teacher, slot)) {
                return 4;
            }
            return plan.loadOf(teacher) >= school.teacherMost.at(teacher) ? 5 : 0;
        }

        int againstSupervision(int lesson, int teacher) {
            int slot = plan.slots.at(lesson);
            if (!plan.isOpen(lesson)) {
                return 1;
            }
            if (plan.isAwayAt(teacher, slot)) {
                return 2;
            }
            if (isBusy(teacher, slot)) {
                return 4;
            }
            return plan.dutiesOn(teacher, school.dayOf(slot)) >= MAX_DUTIES_A_DAY ? 6 : 0;
        }

        int againstExchange(int lesson, int other) {
            if (school.lessonClass.at(lesson) != school.lessonClass.at(other)) {
                return 1;
            }
            if (plan.slots.at(lesson) == plan.slots.at(other)) {
                return 2;
            }
            if (plan.isOpen(lesson) || plan.isOpen(other)) {
                return 3;
            }
            if (isTeacherAwayAt(lesson, plan.slots.at(other)) || isTeacherAwayAt(other, plan.slots.at(lesson))) {
                return 4;
            }
            if (isHeldByThird(plan.teachers, lesson, other) || isHeldByThird(plan.teachers, other, lesson)) {
                return 5;
            }
            return isHeldByThird(plan.rooms, lesson, other) || isHeldByThird(plan.rooms, other, lesson) ? 6 : 0;
        }

        int againstMove(int lesson, int slot) {
            if (plan.slots.at(lesson) == slot) {
                return 2;
            }
            if (plan.lessonAt(slot, school.lessonClass, school.lessonClass.at(lesson)) != NONE) {
                return 1;
            }
            if (!plan.isOpen(lesson) && isTeacherAwayAt(lesson, slot)) {
                return 4;
            }
            if (!plan.isOpen(lesson) && isBusy(plan.teachers.at(lesson), slot)) {
                return 5;
            }
            return plan.lessonAt(slot, plan.rooms, plan.rooms.at(lesson)) != NONE ? 6 : 0;
        }

        int againstRoom(int lesson, int room) {
            if (plan.rooms.at(lesson) == room) {
                return 2;
            }
            if (school.roomKind.at(room) != school.subjectKind.at(school.lessonSubject.at(lesson))) {
                return 7;
            }
            return plan.lessonAt(plan.slots.at(lesson), plan.rooms, room) != NONE ? 6 : 0;
        }

        private boolean isBusy(int teacher, int slot) {
            return plan.lessonAt(slot, plan.teachers, teacher) != NONE;
        }

        private boolean isTeacherAwayAt(int lesson, int slot) {
            return plan.isAwayAt(plan.teachers.at(lesson), slot);
        }

        /** Whether the teacher or room of a lesson has a third lesson in the slot of the other one. */
        private boolean isHeldByThird(Row row, int lesson, int other) {
            int found = plan.lessonAt(plan.slots.at(other), row, row.at(lesson));
            return found != NONE && found != lesson && found != other;
        }
    }

    /** The chain of an open lesson; sets of teachers are bit masks. */
    private static final class Chains {
        final School school;
        final Plan plan;
        /** Who could teach the lesson that a teacher teaches in the slot. */
        final Row successors = new Row(MAX_TEACHERS);
        /** Who can stand at a place of a chain. */
        final Row reached = new Row(MAX_CHAIN);
        /** Who can stand at a place of a chain that ends well. */
        final Row useful = new Row(MAX_CHAIN);
        final Row members = new Row(MAX_CHAIN);
        int length;

        Chains(School school, Plan plan) {
            this.school = school;
            this.plan = plan;
        }

        int find(int lesson) {
            length = 0;
            if (!plan.isOpen(lesson)) {
                return 0;
            }
            int slot = plan.slots.at(lesson);
            int present = presentAt(slot);
            int free = present & ~busyAt(slot, present);
            int mask = present & school.qualifiedFor(school.lessonSubject.at(lesson));
            for (int k = 0; k < MAX_CHAIN && length == 0; k++) {
                reached.put(k, mask);
                int last = leastLoaded(mask & free);
                if (last != 0) {
                    length = k + 1;
                    choose(last);
                }
                mask = successorsOf(mask);
            }
            return length;
        }

        private int presentAt(int slot) {
            int day = school.dayOf(slot);
            int mask = 0;
            for (int k = 0; k < school.teachers; k++) {
                if (!plan.isAway(k, day)) {
                    mask |= 1 << k;
                }
            }
            return mask;
        }

        /** Returns who is busy in the slot, and notes the successors of those who teach there. */
        private int busyAt(int slot, int present) {
            for (int k = 0; k < MAX_TEACHERS; k++) {
                successors.put(k, 0);
            }
            int mask = 0;
            for (int i = 0; i < school.lessons; i++) {
                if (plan.slots.at(i) == slot && !plan.isOpen(i)) {
                    mask |= 1 << plan.teachers.at(i);
                    if (plan.isTaught(i)) {
                        successors.put(plan.teachers.at(i), present & school.qualifiedFor(school.lessonSubject.at(i)));
                    }
                }
            }
            return mask;
        }

        private int successorsOf(int mask) {
            int next = 0;
            for (int k = 0; k < school.teachers; k++) {
                if (hasBit(mask, k)) {
                    next |= successors.at(k);
                }
            }
            return next;
        }

        /** Those of the set who may take a lesson more and have the least load. */
        private int leastLoaded(int mask) {
            int best = 0;
            int least = 0;
            for (int k = 0; k < school.teachers; k++) {
                if (hasBit(mask, k)) {
                    int load = plan.loadOf(k);
                    if (load < school.teacherMost.at(k) && (best == 0 || load <= least)) {
                        best = best != 0 && load == least ? best | 1 << k : 1 << k;
                        least = load;
                    }
                }
            }
            return best;
        }

        // nobody comes twice: without what is between them, the chain would have been found when it was shorter
        private void choose(int last) {
            useful.put(length - 1, last);
            for (int k = length - 2; k >= 0; k--) {
                useful.put(k, thoseBefore(useful.at(k + 1), reached.at(k)));
            }
            int mask = reached.at(0);
            for (int k = 0; k < length; k++) {
                int member = lowest(mask & useful.at(k));
                members.put(k, member);
                mask = successors.at(member);
            }
        }

        private int thoseBefore(int next, int mask) {
            int found = 0;
            for (int k = 0; k < school.teachers; k++) {
                if (hasBit(mask, k) && (successors.at(k) & next) != 0) {
                    found |= 1 << k;
                }
            }
            return found;
        }

        private int lowest(int mask) {
            for (int k = 0; k < MAX_TEACHERS; k++) {
                if (hasBit(mask, k)) {
                    return k;
                }
            }
            return NONE;
        }
    }

    /** Makes the changes that nothing speaks against; what is refused changes nothing. */
    private static final class Mender {
        final School school;
        final Plan plan;
        final Reasons reasons;
        final Chains chains;

        Mender(School school, Plan plan, Reasons reasons, Chains chains) {
            this.school = school;
            this.plan = plan;
            this.reasons = reasons;
            this.chains = chains;
        }

        /** Whether the method for a step of a script would throw nothing; the step is done then. */
        boolean perform(int step, int a, int b) {
            if (step == ScriptText.ABSENT || step == ScriptText.PRESENT) {
                if (!school.hasTeacher(a) || !school.hasDay(b)) {
                    return false;
                }
                letBeAbsent(a, b, step == ScriptText.ABSENT);
                return true;
            }
            if (step == ScriptText.ALL) {
                repairOpenLessons();
                return true;
            }
            if (!school.hasLesson(a)) {
                return false;
            }
            switch (step) {
                case ScriptText.COVER: return school.hasTeacher(b) && letCover(a, b);
                case ScriptText.WATCH: return school.hasTeacher(b) && letSupervise(a, b);
                case ScriptText.REPAIR: return repairByChain(a);
                case ScriptText.SWAP: return school.hasLesson(b) && swapSlots(a, b);
                case ScriptText.MOVE: return school.hasSlot(b) && moveToSlot(a, b);
                case ScriptText.ROOM: return school.hasRoom(b) && moveToRoom(a, b);
                case ScriptText.OPEN: return openAgain(a);
                default: return false;
            }
        }

        int letBeAbsent(int teacher, int day, boolean isAbsent) {
            int days = plan.absences.at(teacher);
            if (!isAbsent) {
                plan.absences.put(teacher, days & ~(1 << day));
                return 0;
            }
            plan.absences.put(teacher, days | 1 << day);
            int opened = 0;
            for (int i = 0; i < school.lessons; i++) {
                if (plan.teachers.at(i) == teacher && school.dayOf(plan.slots.at(i)) == day) {
                    plan.makeOpen(i);
                    opened++;
                }
            }
            return opened;
        }

        boolean letCover(int lesson, int teacher) {
            if (reasons.againstCover(lesson, teacher) != 0) {
                return false;
            }
            plan.letTeach(lesson, teacher);
            return true;
        }

        boolean letSupervise(int lesson, int teacher) {
            if (reasons.againstSupervision(lesson, teacher) != 0) {
                return false;
            }
            plan.letWatch(lesson, teacher);
            return true;
        }

        boolean repairByChain(int lesson) {
            int length = chains.find(lesson);
            int slot = plan.slots.at(lesson);
            int toFill = lesson;
            for (int k = 0; k < length; k++) {
                int teacher = chains.members.at(k);
                // looked up before the teacher has two lessons in the slot
                int left = plan.lessonAt(slot, plan.teachers, teacher);
                plan.letTeach(toFill, teacher);
                toFill = left;
            }
            return length > 0;
        }

        int repairOpenLessons() {
            int repaired = 0;
            for (int i = 0; i < school.lessons; i++) {
                if (repairByChain(i)) {
                    repaired++;
                }
            }
            return repaired;
        }

        boolean swapSlots(int lesson, int other) {
            if (reasons.againstExchange(lesson, other) != 0) {
                return false;
            }
            int slot = plan.slots.at(lesson);
            plan.slots.put(lesson, plan.slots.at(other));
            plan.slots.put(other, slot);
            return true;
        }

        boolean moveToSlot(int lesson, int slot) {
            if (reasons.againstMove(lesson, slot) != 0) {
                return false;
            }
            plan.slots.put(lesson, slot);
            return true;
        }

        boolean moveToRoom(int lesson, int room) {
            if (reasons.againstRoom(lesson, room) != 0) {
                return false;
            }
            plan.rooms.put(lesson, room);
            return true;
        }

        boolean openAgain(int lesson) {
            if (plan.isOpen(lesson)) {
                return false;
            }
            plan.makeOpen(lesson);
            return true;
        }
    }

    /** The states before the latest changes, in a ring with a place more than can be undone: the marked state. */
    private static final class History {
        private static final int PLACES = MAX_UNDO + 1;
        private static final int ROWS = 4;
        private static final int CELLS = ROWS * MAX_LESSONS + MAX_TEACHERS;

        final Plan plan;
        final Row cells = new Row(PLACES * CELLS);
        int oldest;
        int depth;

        History(Plan plan) {
            this.plan = plan;
        }

        void forget() {
            depth = 0;
        }

        /** Notes the state before a change, which may yet be refused. */
        void mark() {
            int base = baseOf(depth);
            for (int i = 0; i < MAX_LESSONS; i++) {
                cells.put(base + ROWS * i, plan.slots.at(i));
                cells.put(base + ROWS * i + 1, plan.teachers.at(i));
                cells.put(base + ROWS * i + 2, plan.rooms.at(i));
                cells.put(base + ROWS * i + 3, plan.supervised.at(i));
            }
            for (int k = 0; k < MAX_TEACHERS; k++) {
                cells.put(base + ROWS * MAX_LESSONS + k, plan.absences.at(k));
            }
        }

        void keepMarked() {
            if (depth < MAX_UNDO) {
                depth++;
            } else {
                oldest = (oldest + 1) % PLACES;
            }
        }

        void restoreMarked() {
            int base = baseOf(depth);
            for (int i = 0; i < MAX_LESSONS; i++) {
                plan.slots.put(i, cells.at(base + ROWS * i));
                plan.teachers.put(i, cells.at(base + ROWS * i + 1));
                plan.rooms.put(i, cells.at(base + ROWS * i + 2));
                plan.supervised.put(i, cells.at(base + ROWS * i + 3));
            }
            for (int k = 0; k < MAX_TEACHERS; k++) {
                plan.absences.put(k, cells.at(base + ROWS * MAX_LESSONS + k));
            }
        }

        void restoreLatest() {
            depth--;
            restoreMarked();
        }

        private int baseOf(int place) {
            return (oldest + place) % PLACES * CELLS;
        }
    }

    /** The text buffer, the token in it that is read now, and the error that was met. */
    private static final class Words {
        static final int END = 0;
        static final int WORD = 1;
        static final int NUMBER = 2;
        static final int SEMICOLON = 3;
        static final int STRANGE = 4;
        /** Numbers stop growing here, above all ranges and far below where they would wrap around. */
        private static final int MAX_VALUE = 1000000;

        final Row text = new Row(MAX_TEXT);
        int length;
        int kind;
        int start;
        int end;
        int value;
        int failure;
        int failedAt = NONE;

        void append(int four) {
            for (int shift = 24; shift >= 0; shift -= 8) {
                text.put(length, four >>> shift & 255);
                length++;
            }
        }

        void begin() {
            failure = 0;
            failedAt = NONE;
            end = 0;
            next();
        }

        void next() {
            start = afterBlanks(end);
            end = start + 1;
            int first = text.at(start);
            if (start >= length) {
                kind = END;
                end = length;
            } else if (isLetter(first)) {
                kind = WORD;
                end = afterLetters(start);
            } else if (isDigit(first)) {
                kind = NUMBER;
                end = afterDigits(start);
            } else {
                kind = first == ';' ? SEMICOLON : STRANGE;
            }
        }

        boolean isWord(String word) {
            if (kind != WORD || end - start != word.length()) {
                return false;
            }
            for (int i = 0; i < word.length(); i++) {
                if (text.at(start + i) != word.charAt(i)) {
                    return false;
                }
            }
            return true;
        }

        /** Always false, for a reader to answer with. */
        boolean fail(int code, int position) {
            failure = code;
            failedAt = position;
            return false;
        }

        private int afterBlanks(int from) {
            int i = from;
            while (i < length && (text.at(i) == ' ' || text.at(i) == '\n')) {
                i++;
            }
            return i;
        }

        private int afterLetters(int from) {
            int i = from;
            while (i < length && isLetter(text.at(i))) {
                i++;
            }
            return i;
        }

        private int afterDigits(int from) {
            int i = from;
            value = 0;
            while (i < length && isDigit(text.at(i))) {
                value = Math.min(value * 10 + text.at(i) - '0', MAX_VALUE);
                i++;
            }
            return i;
        }

        private static boolean isLetter(int character) {
            return character >= 'a' && character <= 'z';
        }

        private static boolean isDigit(int character) {
            return character >= '0' && character <= '9';
        }
    }

    /** Reads a school text into a draft. */
    private static final class SchoolText {
        final Words words;
        final School draft = new School();

        SchoolText(Words words) {
            this.words = words;
        }

        boolean read() {
            draft.becomeEmpty();
            words.begin();
            return readGrid() && readSubjects() && readTeachers() && readRooms() && readClasses() && readLessons();
        }

        private boolean readGrid() {
            if (!takeWord("grid") || !checkNumber(1, MAX_DAYS)) {
                return false;
            }
            draft.days = takeNumber();
            if (!checkNumber(1, MAX_PERIODS)) {
                return false;
            }
            draft.periods = takeNumber();
            return takeSemicolon();
        }

        private boolean readSubjects() {
            for (int i = 0; i <= MAX_SUBJECTS && (i == 0 || words.isWord("subject")); i++) {
                if (i == MAX_SUBJECTS) {
                    return fail(5);
                }
                if (!takeWord("subject") || !checkNumber(0, MAX_KIND)) {
                    return false;
                }
                draft.addSubject(takeNumber());
                if (!takeSemicolon()) {
                    return false;
                }
            }
            return true;
        }

        private boolean readTeachers() {
            for (int i = 0; i <= MAX_TEACHERS && (i == 0 || words.isWord("teacher")); i++) {
                if (i == MAX_TEACHERS) {
                    return fail(5);
                }
                if (!takeWord("teacher") || !readTeacher()) {
                    return false;
                }
            }
            return true;
        }

        private boolean readTeacher() {
            if (!checkNumber(0, MAX_MOST)) {
                return false;
            }
            int most = takeNumber();
            int mask = 0;
            for (int k = 0; k <= MAX_SUBJECTS && (k == 0 || words.kind == Words.NUMBER); k++) {
                if (!checkNumber(0, draft.subjects - 1)) {
                    return false;
                }
                if (hasBit(mask, words.value)) {
                    return fail(3);
                }
                mask |= 1 << takeNumber();
            }
            draft.addTeacher(most, mask);
            return takeSemicolon();
        }

        private boolean readRooms() {
            for (int i = 0; i <= MAX_ROOMS && (i == 0 || words.isWord("room")); i++) {
                if (i == MAX_ROOMS) {
                    return fail(5);
                }
                if (!takeWord("room") || !checkNumber(0, MAX_KIND)) {
                    return false;
                }
                draft.addRoom(takeNumber());
                if (!takeSemicolon()) {
                    return false;
                }
            }
            return true;
        }

        private boolean readClasses() {
            if (!takeWord("classes") || !checkNumber(1, MAX_CLASSES)) {
                return false;
            }
            draft.classes = takeNumber();
            return takeSemicolon();
        }

        private boolean readLessons() {
            for (int i = 0; i <= MAX_LESSONS && words.isWord("lesson"); i++) {
                if (i == MAX_LESSONS) {
                    return fail(5);
                }
                words.next();
                if (!readLesson()) {
                    return false;
                }
            }
            return words.kind == Words.END || fail(1);
        }

        private boolean readLesson() {
            if (!checkNumber(0, draft.slots() - 1)) {
                return false;
            }
            int slot = takeNumber();
            if (!checkUntaken(slot, draft.lessonClass, draft.classes)) {
                return false;
            }
            int group = takeNumber();
            if (!checkNumber(0, draft.subjects - 1)) {
                return false;
            }
            int subject = takeNumber();
            if (!checkUntaken(slot, draft.firstTeacher, draft.teachers)) {
                return false;
            }
            if (!draft.isQualified(words.value, subject)) {
                return fail(4);
            }
            int teacher = takeNumber();
            if (!checkUntaken(slot, draft.firstRoom, draft.rooms)) {
                return false;
            }
            if (draft.roomKind.at(words.value) != draft.subjectKind.at(subject)) {
                return fail(4);
            }
            draft.addLesson(slot, group, subject, teacher, takeNumber());
            return takeSemicolon();
        }

        private boolean checkUntaken(int slot, Row row, int number) {
            if (!checkNumber(0, number - 1)) {
                return false;
            }
            return !draft.isTakenAtFirst(slot, row, words.value) || fail(3);
        }

        private boolean checkNumber(int least, int greatest) {
            if (words.kind != Words.NUMBER) {
                return fail(1);
            }
            return words.value >= least && words.value <= greatest || fail(2);
        }

        private int takeNumber() {
            int number = words.value;
            words.next();
            return number;
        }

        private boolean takeWord(String word) {
            if (!words.isWord(word)) {
                return fail(1);
            }
            words.next();
            return true;
        }

        private boolean takeSemicolon() {
            if (words.kind != Words.SEMICOLON) {
                return fail(1);
            }
            words.next();
            return true;
        }

        private boolean fail(int code) {
            return words.fail(code, words.start);
        }
    }

    /** Reads a script text step by step, up to the semicolon of each. */
    private static final class ScriptText {
        static final int ABSENT = 0;
        static final int PRESENT = 1;
        static final int COVER = 2;
        static final int WATCH = 3;
        static final int SWAP = 4;
        static final int MOVE = 5;
        static final int ROOM = 6;
        static final int REPAIR = 7;
        static final int OPEN = 8;
        static final int ALL = 9;
        private static final int STEPS = 10;
        private static final int MAX_DIGITS = 4;

        final Words words;
        int step;
        int start;
        int first;
        int second;

        ScriptText(Words words) {
            this.words = words;
        }

        boolean readStep() {
            start = words.start;
            step = findStep();
            if (step == NONE) {
                return words.fail(1, words.start);
            }
            words.next();
            int numbers = numbersOf(step);
            for (int k = 0; k < numbers; k++) {
                if (words.kind != Words.NUMBER || words.end - words.start > MAX_DIGITS) {
                    return words.fail(1, words.start);
                }
                first = k == 0 ? words.value : first;
                second = words.value;
                words.next();
            }
            return words.kind == Words.SEMICOLON || words.fail(1, words.start);
        }

        private int findStep() {
            for (int k = 0; k < STEPS; k++) {
                if (words.isWord(wordOf(k))) {
                    return k;
                }
            }
            return NONE;
        }

        private static int numbersOf(int step) {
            if (step == ALL) {
                return 0;
            }
            return step == REPAIR || step == OPEN ? 1 : 2;
        }

        private static String wordOf(int step) {
            switch (step) {
                case ABSENT: return "absent";
                case PRESENT: return "present";
                case COVER: return "cover";
                case WATCH: return "watch";
                case SWAP: return "swap";
                case MOVE: return "move";
                case ROOM: return "room";
                case REPAIR: return "repair";
                case OPEN: return "open";
                default: return "all";
            }
        }
    }

    /** The timetable of a class as it was when it was written. */
    private static final class Report {
        /** A digit, a point, a digit and an exclamation mark, and a blank or a line feed after them. */
        private static final int BYTES_A_SLOT = 5;

        final School school;
        final Plan plan;
        final Row bytes = new Row(MAX_DAYS * MAX_PERIODS * BYTES_A_SLOT);
        int length;

        Report(School school, Plan plan) {
            this.school = school;
            this.plan = plan;
        }

        void write(int group) {
            length = 0;
            for (int day = 0; day < school.days; day++) {
                for (int p = 0; p < school.periods; p++) {
                    if (p > 0) {
                        append(' ');
                    }
                    writeLesson(plan.lessonAt(day * school.periods + p, school.lessonClass, group));
                }
                append('\n');
            }
        }

        private void writeLesson(int lesson) {
            if (lesson == NONE) {
                append('-');
                return;
            }
            // numbers of subjects and teachers have one digit
            append('0' + school.lessonSubject.at(lesson));
            append('.');
            append(plan.isOpen(lesson) ? '?' : '0' + plan.teachers.at(lesson));
            if (plan.isSupervised(lesson)) {
                append('!');
            }
        }

        private void append(int character) {
            bytes.put(length, character);
            length++;
        }
    }
}
