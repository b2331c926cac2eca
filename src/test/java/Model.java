import java.util.ArrayDeque;
import java.util.ArrayList;
import java.util.Arrays;
import java.util.Deque;
import java.util.List;
import java.util.NoSuchElementException;
import java.util.regex.Matcher;
import java.util.regex.Pattern;

/** A second desk, written from the document in another way (tries, lists and all paths), to compare with. */
public final class Model {
    private static final Pattern TOKEN = Pattern.compile("[ \n]*([a-z]+|[0-9]+|;|.|\\z)", Pattern.DOTALL);

    private static final class Lesson {
        int slot;
        int group;
        int subject;
        int teacher;
        int room;
        boolean watched;

        Lesson copy() {
            Lesson lesson = new Lesson();
            lesson.slot = slot;
            lesson.group = group;
            lesson.subject = subject;
            lesson.teacher = teacher;
            lesson.room = room;
            lesson.watched = watched;
            return lesson;
        }

        boolean isLike(Lesson other) {
            return slot == other.slot && teacher == other.teacher && room == other.room && watched == other.watched;
        }
    }

    private static final class State {
        final List<Lesson> lessons = new ArrayList<>();
        final boolean[][] away = new boolean[8][5];

        State copy() {
            State state = new State();
            for (Lesson lesson : lessons) {
                state.lessons.add(lesson.copy());
            }
            for (int k = 0; k < 8; k++) {
                state.away[k] = away[k].clone();
            }
            return state;
        }
    }

    private static final class School {
        int days;
        int periods;
        int classes;
        final List<Integer> kinds = new ArrayList<>();
        final List<Integer> most = new ArrayList<>();
        final List<List<Integer>> skills = new ArrayList<>();
        final List<Integer> roomKinds = new ArrayList<>();
        final List<Lesson> first = new ArrayList<>();
    }

    /** An error of a text. */
    private static final class Wrong extends RuntimeException {
        private static final long serialVersionUID = 1;
        final int code;
        final int position;

        Wrong(int code, int position) {
            this.code = code;
            this.position = position;
        }
    }

    private final StringBuilder buffer = new StringBuilder();
    private String report = "";
    private int code;
    private int position = -1;
    private School school;
    private State now;
    private final Deque<State> past = new ArrayDeque<>();

    private String text;
    private int at;
    private int start;
    private String token;

    public Model() {
        buffer.append("grid 1 2; subject 0; teacher 2 0; teacher 2 0; room 0; classes 1; lesson 0 0 0 0 0;");
        parseSchool();
    }

    // ---- texts

    public int appendText(int a, int b, int c, int d, int e) {
        if (buffer.length() > 880) {
            throw new IllegalStateException();
        }
        for (int number : new int[] {a, b, c, d, e}) {
            for (int k = 3; k >= 0; k--) {
                buffer.append((char) (number >> 8 * k & 255));
            }
        }
        return buffer.length();
    }

    public int truncateText(int length) {
        if (length < 0 || length > buffer.length()) {
            throw new IllegalArgumentException();
        }
        buffer.setLength(length);
        return length;
    }

    private void open() {
        text = buffer.toString();
        buffer.setLength(0);
        code = 0;
        position = -1;
        at = 0;
        step();
    }

    private void step() {
        Matcher matcher = TOKEN.matcher(text);
        matcher.region(at, text.length());
        matcher.lookingAt();
        token = matcher.group(1);
        start = matcher.start(1);
        at = matcher.end(1);
    }

    private boolean isNumber() {
        return token.matches("[0-9]+");
    }

    private void word(String word) {
        wrongIf(!token.equals(word), 1);
        step();
    }

    private void wrongIf(boolean isWrong, int number) {
        if (isWrong) {
            throw new Wrong(number, start);
        }
    }

    private int peek(int least, int greatest) {
        wrongIf(!isNumber(), 1);
        java.math.BigInteger value = new java.math.BigInteger(token);
        wrongIf(value.compareTo(java.math.BigInteger.valueOf(least)) < 0, 2);
        wrongIf(value.compareTo(java.math.BigInteger.valueOf(greatest)) > 0, 2);
        return value.intValue();
    }

    private int number(int least, int greatest) {
        int value = peek(least, greatest);
        step();
        return value;
    }

    public int parseSchool() {
        open();
        School made = new School();
        try {
            statements(made);
        } catch (Wrong wrong) {
            code = wrong.code;
            position = wrong.position;
            return -1;
        }
        school = made;
        now = new State();
        for (Lesson lesson : school.first) {
            now.lessons.add(lesson.copy());
        }
        past.clear();
        return school.first.size();
    }

    private void statements(School made) {
        word("grid");
        made.days = number(1, 5);
        made.periods = number(1, 6);
        word(";");
        do {
            wrongIf(token.equals("subject") && made.kinds.size() == 6, 5);
            word("subject");
            made.kinds.add(number(0, 3));
            word(";");
        } while (token.equals("subject"));
        do {
            wrongIf(token.equals("teacher") && made.most.size() == 8, 5);
            word("teacher");
            made.most.add(number(0, 9));
            List<Integer> skills = new ArrayList<>();
            do {
                int skill = peek(0, made.kinds.size() - 1);
                wrongIf(skills.contains(skill), 3);
                skills.add(skill);
                step();
            } while (!token.equals(";"));
            made.skills.add(skills);
            word(";");
        } while (token.equals("teacher"));
        do {
            wrongIf(token.equals("room") && made.roomKinds.size() == 6, 5);
            word("room");
            made.roomKinds.add(number(0, 3));
            word(";");
        } while (token.equals("room"));
        word("classes");
        made.classes = number(1, 6);
        word(";");
        while (!token.isEmpty()) {
            wrongIf(token.equals("lesson") && made.first.size() == 40, 5);
            word("lesson");
            lessonStatement(made);
            word(";");
        }
    }

    private void lessonStatement(School made) {
        Lesson lesson = new Lesson();
        lesson.slot = number(0, made.days * made.periods - 1);
        lesson.group = peek(0, made.classes - 1);
        wrongIf(made.first.stream().anyMatch(l -> l.slot == lesson.slot && l.group == lesson.group), 3);
        step();
        lesson.subject = number(0, made.kinds.size() - 1);
        lesson.teacher = peek(0, made.most.size() - 1);
        wrongIf(made.first.stream().anyMatch(l -> l.slot == lesson.slot && l.teacher == lesson.teacher), 3);
        wrongIf(!made.skills.get(lesson.teacher).contains(lesson.subject), 4);
        step();
        lesson.room = peek(0, made.roomKinds.size() - 1);
        wrongIf(made.first.stream().anyMatch(l -> l.slot == lesson.slot && l.room == lesson.room), 3);
        wrongIf(!made.roomKinds.get(lesson.room).equals(made.kinds.get(lesson.subject)), 4);
        step();
        made.first.add(lesson);
    }

    public int runScript() {
        open();
        State before = now.copy();
        List<State> pastBefore = new ArrayList<>(past);
        int steps = 0;
        try {
            while (!token.isEmpty()) {
                scriptStep();
                steps++;
            }
        } catch (Wrong wrong) {
            code = wrong.code;
            position = wrong.position;
            now = before;
            past.clear();
            past.addAll(pastBefore);
            return -1;
        }
        past.clear();
        past.addAll(pastBefore);
        past.addLast(before);
        trim();
        return steps;
    }

    private void scriptStep() {
        List<String> words = List.of("absent", "present", "cover", "watch", "swap", "move", "room", "repair", "open",
                "all");
        int which = words.indexOf(token);
        int where = start;
        wrongIf(which < 0, 1);
        step();
        int[] numbers = new int[which < 7 ? 2 : which < 9 ? 1 : 0];
        for (int k = 0; k < numbers.length; k++) {
            wrongIf(!isNumber() || token.length() > 4, 1);
            numbers[k] = number(0, 9999);
        }
        wrongIf(!token.equals(";"), 1);
        try {
            execute(which, numbers);
        } catch (IndexOutOfBoundsException | IllegalStateException e) {
            throw new Wrong(6, where);
        }
        step();
    }

    private void execute(int which, int[] n) {
        switch (which) {
            case 0 -> setAbsent(n[0], n[1], true);
            case 1 -> setAbsent(n[0], n[1], false);
            case 2 -> cover(n[0], n[1]);
            case 3 -> supervise(n[0], n[1]);
            case 4 -> exchange(n[0], n[1]);
            case 5 -> move(n[0], n[1]);
            case 6 -> setRoom(n[0], n[1]);
            case 7 -> repair(n[0]);
            case 8 -> reopen(n[0]);
            default -> repairAll();
        }
    }

    public int errorCode() {
        return code;
    }

    public int errorPosition() {
        return position;
    }

    // ---- changes

    private void changing() {
        past.addLast(now.copy());
        trim();
    }

    private void trim() {
        while (past.size() > 10) {
            past.removeFirst();
        }
    }

    private void must(boolean exists) {
        if (!exists) {
            throw new IndexOutOfBoundsException();
        }
    }

    private void refuseIf(boolean isRefused) {
        if (isRefused) {
            throw new IllegalStateException();
        }
    }

    private Lesson at(int lesson) {
        must(lesson >= 0 && lesson < now.lessons.size());
        return now.lessons.get(lesson);
    }

    private void mustTeacher(int teacher) {
        must(teacher >= 0 && teacher < school.most.size());
    }

    private void mustDay(int day) {
        must(day >= 0 && day < school.days);
    }

    private void mustSlot(int slot) {
        must(slot >= 0 && slot < school.days * school.periods);
    }

    private void mustRoom(int room) {
        must(room >= 0 && room < school.roomKinds.size());
    }

    private void mustClass(int group) {
        must(group >= 0 && group < school.classes);
    }

    private int day(int slot) {
        return slot / school.periods;
    }

    public int setAbsent(int teacher, int day, boolean isAbsent) {
        mustTeacher(teacher);
        mustDay(day);
        changing();
        int opened = 0;
        if (isAbsent && !now.away[teacher][day]) {
            for (Lesson lesson : now.lessons) {
                if (lesson.teacher == teacher && day(lesson.slot) == day) {
                    lesson.teacher = -1;
                    lesson.watched = false;
                    opened++;
                }
            }
        }
        now.away[teacher][day] = isAbsent;
        return opened;
    }

    public int cover(int lesson, int teacher) {
        refuseIf(whyNotCover(lesson, teacher) != 0);
        changing();
        at(lesson).teacher = teacher;
        at(lesson).watched = false;
        return load(teacher);
    }

    public int supervise(int lesson, int teacher) {
        refuseIf(whyNotSupervise(lesson, teacher) != 0);
        changing();
        at(lesson).teacher = teacher;
        at(lesson).watched = true;
        return (int) now.lessons.stream().filter(l -> l.watched && l.teacher == teacher).count();
    }

    public int repair(int lesson) {
        refuseIf(chain(lesson) == 0);
        changing();
        return repairBy(lesson);
    }

    private int repairBy(int lesson) {
        List<Integer> best = bestChain(lesson);
        Lesson toFill = at(lesson);
        for (int teacher : best) {
            int left = busyWith(toFill.slot, teacher);
            toFill.teacher = teacher;
            if (left >= 0) {
                toFill = at(left);
            }
        }
        return best.size();
    }

    public int repairAll() {
        changing();
        int repaired = 0;
        for (int i = 0; i < now.lessons.size(); i++) {
            if (chain(i) > 0) {
                repairBy(i);
                repaired++;
            }
        }
        return repaired;
    }

    public int exchange(int lesson, int other) {
        refuseIf(whyNotExchange(lesson, other) != 0);
        changing();
        int slot = at(lesson).slot;
        at(lesson).slot = at(other).slot;
        at(other).slot = slot;
        return at(lesson).slot;
    }

    public int move(int lesson, int slot) {
        refuseIf(whyNotMove(lesson, slot) != 0);
        changing();
        int before = at(lesson).slot;
        at(lesson).slot = slot;
        return before;
    }

    public int setRoom(int lesson, int room) {
        refuseIf(whyNotRoom(lesson, room) != 0);
        changing();
        int before = at(lesson).room;
        at(lesson).room = room;
        return before;
    }

    public int reopen(int lesson) {
        refuseIf(at(lesson).teacher < 0);
        changing();
        int before = at(lesson).teacher;
        at(lesson).teacher = -1;
        at(lesson).watched = false;
        return before;
    }

    public int reset() {
        int differing = count(9);
        changing();
        for (int i = 0; i < now.lessons.size(); i++) {
            Lesson lesson = school.first.get(i).copy();
            if (now.away[lesson.teacher][day(lesson.slot)]) {
                lesson.teacher = -1;
            }
            now.lessons.set(i, lesson);
        }
        return differing;
    }

    // ---- reasons

    private boolean isQualified(int teacher, Lesson lesson) {
        return school.skills.get(teacher).contains(lesson.subject);
    }

    private int busyWith(int slot, int teacher) {
        for (int i = 0; i < now.lessons.size(); i++) {
            if (at(i).slot == slot && at(i).teacher == teacher) {
                return i;
            }
        }
        return -1;
    }

    private int taught(int teacher) {
        return (int) now.lessons.stream().filter(l -> !l.watched && l.teacher == teacher).count();
    }

    private int firstTaught(int teacher) {
        return (int) school.first.stream().filter(l -> l.teacher == teacher).count();
    }

    private int load(int teacher) {
        return taught(teacher) - firstTaught(teacher);
    }

    public int whyNotCover(int lesson, int teacher) {
        Lesson it = at(lesson);
        mustTeacher(teacher);
        return it.teacher >= 0 && !it.watched ? 1
                : now.away[teacher][day(it.slot)] ? 2
                : !isQualified(teacher, it) ? 3
                : busyWith(it.slot, teacher) >= 0 ? 4
                : load(teacher) >= school.most.get(teacher) ? 5 : 0;
    }

    public int whyNotSupervise(int lesson, int teacher) {
        Lesson it = at(lesson);
        mustTeacher(teacher);
        return it.teacher >= 0 ? 1
                : now.away[teacher][day(it.slot)] ? 2
                : busyWith(it.slot, teacher) >= 0 ? 4
                : now.lessons.stream().filter(l -> l.watched && l.teacher == teacher && day(l.slot) == day(it.slot))
                        .count() >= 2 ? 6 : 0;
    }

    public int whyNotExchange(int lesson, int other) {
        Lesson a = at(lesson);
        Lesson b = at(other);
        if (a.group != b.group) {
            return 1;
        }
        if (a.slot == b.slot) {
            return 2;
        }
        if (a.teacher < 0 || b.teacher < 0) {
            return 3;
        }
        if (now.away[a.teacher][day(b.slot)] || now.away[b.teacher][day(a.slot)]) {
            return 4;
        }
        boolean isBusy = false;
        boolean isFull = false;
        for (Lesson third : now.lessons) {
            if (third != a && third != b) {
                isBusy |= third.slot == b.slot && third.teacher == a.teacher;
                isBusy |= third.slot == a.slot && third.teacher == b.teacher;
                isFull |= third.slot == b.slot && third.room == a.room;
                isFull |= third.slot == a.slot && third.room == b.room;
            }
        }
        return isBusy ? 5 : isFull ? 6 : 0;
    }

    public int whyNotMove(int lesson, int slot) {
        Lesson it = at(lesson);
        mustSlot(slot);
        if (it.slot == slot) {
            return 2;
        }
        if (now.lessons.stream().anyMatch(l -> l.slot == slot && l.group == it.group)) {
            return 1;
        }
        if (it.teacher >= 0 && now.away[it.teacher][day(slot)]) {
            return 4;
        }
        if (it.teacher >= 0 && busyWith(slot, it.teacher) >= 0) {
            return 5;
        }
        return now.lessons.stream().anyMatch(l -> l.slot == slot && l.room == it.room) ? 6 : 0;
    }

    public int whyNotRoom(int lesson, int room) {
        Lesson it = at(lesson);
        mustRoom(room);
        if (it.room == room) {
            return 2;
        }
        if (!school.roomKinds.get(room).equals(school.kinds.get(it.subject))) {
            return 7;
        }
        return now.lessons.stream().anyMatch(l -> l.slot == it.slot && l.room == room) ? 6 : 0;
    }

    public int candidates(int lesson) {
        at(lesson);
        int mask = 0;
        for (int k = 0; k < school.most.size(); k++) {
            mask += whyNotCover(lesson, k) == 0 ? 1 << k : 0;
        }
        return mask;
    }

    /** The best of all chains, each of which is looked at. */
    private List<Integer> bestChain(int lesson) {
        List<List<Integer>> all = new ArrayList<>();
        if (at(lesson).teacher < 0) {
            collect(at(lesson), new ArrayList<>(), all);
        }
        // lexicographically least first, and the sort keeps this order among equals
        all.sort((x, y) -> x.size() != y.size() ? x.size() - y.size() : lastLoad(x) - lastLoad(y));
        return all.isEmpty() ? List.of() : all.get(0);
    }

    private int lastLoad(List<Integer> chain) {
        return load(chain.get(chain.size() - 1));
    }

    private void collect(Lesson toFill, List<Integer> before, List<List<Integer>> all) {
        for (int k = 0; k < school.most.size() && before.size() < 4; k++) {
            if (before.contains(k) || now.away[k][day(toFill.slot)] || !isQualified(k, toFill)) {
                continue;
            }
            List<Integer> longer = new ArrayList<>(before);
            longer.add(k);
            int busy = busyWith(toFill.slot, k);
            if (busy < 0 && load(k) < school.most.get(k)) {
                all.add(longer);
            } else if (busy >= 0 && !at(busy).watched) {
                collect(at(busy), longer, all);
            }
        }
    }

    public int chain(int lesson) {
        return bestChain(lesson).size();
    }

    public int chainTeacher(int lesson, int index) {
        List<Integer> best = bestChain(lesson);
        if (index < 0 || index >= best.size()) {
            throw new NoSuchElementException();
        }
        return best.get(index);
    }

    private List<Integer> allPartners(int lesson) {
        at(lesson);
        List<Integer> found = new ArrayList<>();
        for (int i = 0; i < now.lessons.size(); i++) {
            if (whyNotExchange(lesson, i) == 0) {
                found.add(i);
            }
        }
        return found;
    }

    public int partners(int lesson) {
        return allPartners(lesson).size();
    }

    public int firstPartner(int lesson) {
        return nth(allPartners(lesson), 0);
    }

    private int nth(List<Integer> numbers, int index) {
        if (index < 0 || index >= numbers.size()) {
            throw new NoSuchElementException();
        }
        return numbers.get(index);
    }

    public int slotsFor(int lesson) {
        at(lesson);
        int mask = 0;
        for (int k = 0; k < school.days * school.periods; k++) {
            mask += whyNotMove(lesson, k) == 0 ? 1 << k : 0;
        }
        return mask;
    }

    // ---- school

    private void argument(boolean isGood) {
        if (!isGood) {
            throw new IllegalArgumentException();
        }
    }

    private List<Integer> differing() {
        List<Integer> found = new ArrayList<>();
        for (int i = 0; i < now.lessons.size(); i++) {
            if (!at(i).isLike(school.first.get(i))) {
                found.add(i);
            }
        }
        return found;
    }

    private List<Integer> open(boolean isOpen) {
        List<Integer> found = new ArrayList<>();
        for (int i = 0; i < now.lessons.size(); i++) {
            if (at(i).teacher < 0 == isOpen) {
                found.add(i);
            }
        }
        return found;
    }

    public int count(int what) {
        argument(what >= 0 && what <= 9);
        return Arrays.asList(school.days, school.periods, school.kinds.size(), school.most.size(),
                school.roomKinds.size(), school.classes, school.first.size(), open(true).size(),
                (int) now.lessons.stream().filter(l -> l.watched).count(), differing().size()).get(what);
    }

    public int lesson(int lesson, int what) {
        Lesson it = at(lesson);
        Lesson was = school.first.get(lesson);
        argument(what >= 0 && what <= 9);
        return Arrays.asList(it.slot, it.group, it.subject, it.teacher, it.room, it.watched ? 1 : 0, was.slot,
                was.teacher, was.room, it.isLike(was) ? 0 : 1).get(what);
    }

    public int teacher(int teacher, int what) {
        mustTeacher(teacher);
        argument(what >= 0 && what <= 6);
        int days = 0;
        for (int d = 0; d < 5; d++) {
            days += now.away[teacher][d] ? 1 << d : 0;
        }
        int skills = school.skills.get(teacher).stream().mapToInt(s -> 1 << s).sum();
        int duties = (int) now.lessons.stream().filter(l -> l.watched && l.teacher == teacher).count();
        return Arrays.asList(school.most.get(teacher), skills, days, taught(teacher), load(teacher), duties,
                firstTaught(teacher)).get(what);
    }

    public int room(int room, int what) {
        mustRoom(room);
        argument(what == 0 || what == 1);
        return what == 0 ? school.roomKinds.get(room)
                : (int) now.lessons.stream().filter(l -> l.room == room).count();
    }

    public int subject(int subject, int what) {
        must(subject >= 0 && subject < school.kinds.size());
        argument(what >= 0 && what <= 2);
        int mask = 0;
        for (int k = 0; k < school.most.size(); k++) {
            mask += school.skills.get(k).contains(subject) ? 1 << k : 0;
        }
        return what == 0 ? school.kinds.get(subject) : what == 1 ? mask
                : (int) school.first.stream().filter(l -> l.subject == subject).count();
    }

    public int lessonOfClass(int slot, int group) {
        mustSlot(slot);
        mustClass(group);
        for (int i = 0; i < now.lessons.size(); i++) {
            if (at(i).slot == slot && at(i).group == group) {
                return i;
            }
        }
        return -1;
    }

    public int lessonOfTeacher(int slot, int teacher) {
        mustSlot(slot);
        mustTeacher(teacher);
        return busyWith(slot, teacher);
    }

    public int lessonInRoom(int slot, int room) {
        mustSlot(slot);
        mustRoom(room);
        for (int i = 0; i < now.lessons.size(); i++) {
            if (at(i).slot == slot && at(i).room == room) {
                return i;
            }
        }
        return -1;
    }

    public int freeTeachers(int slot) {
        mustSlot(slot);
        int mask = 0;
        for (int k = 0; k < school.most.size(); k++) {
            mask += busyWith(slot, k) < 0 && !now.away[k][day(slot)] ? 1 << k : 0;
        }
        return mask;
    }

    public int freeRooms(int slot, int kind) {
        mustSlot(slot);
        argument(kind >= 0 && kind <= 3);
        int mask = 0;
        for (int k = 0; k < school.roomKinds.size(); k++) {
            mask += school.roomKinds.get(k) == kind && lessonInRoom(slot, k) < 0 ? 1 << k : 0;
        }
        return mask;
    }

    public int openLesson(int index) {
        return nth(open(true), index);
    }

    public int difference(int index) {
        return nth(differing(), index);
    }

    private int holes(boolean[] busy) {
        int found = 0;
        for (int p = 0; p < busy.length; p++) {
            boolean isEarlier = false;
            boolean isLater = false;
            for (int q = 0; q < busy.length; q++) {
                isEarlier |= q < p && busy[q];
                isLater |= q > p && busy[q];
            }
            found += !busy[p] && isEarlier && isLater ? 1 : 0;
        }
        return found;
    }

    public int windows(int teacher, int day) {
        mustTeacher(teacher);
        mustDay(day);
        boolean[] busy = new boolean[school.periods];
        for (int p = 0; p < busy.length; p++) {
            busy[p] = busyWith(day * school.periods + p, teacher) >= 0;
        }
        return holes(busy);
    }

    public int classWindows(int group, int day) {
        mustClass(group);
        mustDay(day);
        boolean[] busy = new boolean[school.periods];
        for (int p = 0; p < busy.length; p++) {
            busy[p] = lessonOfClass(day * school.periods + p, group) >= 0;
        }
        return holes(busy);
    }

    public int spread() {
        List<Integer> loads = new ArrayList<>();
        for (int k = 0; k < school.most.size(); k++) {
            if (teacher(k, 2) == 0) {
                loads.add(load(k));
            }
        }
        return loads.isEmpty() ? 0
                : loads.stream().mapToInt(l -> l).max().getAsInt() - loads.stream().mapToInt(l -> l).min().getAsInt();
    }

    public double taughtShare() {
        int number = school.first.size();
        return number == 0 ? 1.0 : (double) (number - count(7) - count(8)) / number;
    }

    // ---- report, undo

    public int writeReport(int group) {
        mustClass(group);
        StringBuilder lines = new StringBuilder();
        for (int d = 0; d < school.days; d++) {
            List<String> cells = new ArrayList<>();
            for (int p = 0; p < school.periods; p++) {
                int lesson = lessonOfClass(d * school.periods + p, group);
                Lesson it = lesson < 0 ? null : at(lesson);
                cells.add(it == null ? "-" : it.subject + "." + (it.teacher < 0 ? "?" : "" + it.teacher)
                        + (it.watched ? "!" : ""));
            }
            lines.append(String.join(" ", cells)).append('\n');
        }
        report = lines.toString();
        return report.length();
    }

    public int reportByte(int index) {
        must(index >= 0 && index < report.length());
        return report.charAt(index);
    }

    public int undo() {
        refuseIf(past.isEmpty());
        now = past.removeLast();
        return past.size();
    }

    public int undoDepth() {
        return past.size();
    }
}
