import java.util.NoSuchElementException;

/** Promises 18 to 28 and sections 3 and 4: each order of two reasons that can hold at once, and each boundary. */
public final class EdgesOfReasonsTest {
    /** 3 teachers, 2 rooms of kind 0 and one of kind 1, 3 classes; slots 0 to 2 are day 0, slots 3 to 5 day 1. */
    private static final String HEAD = "grid 2 3;subject 0;subject 1;teacher 1 0;teacher 1 0 1;teacher 0 1;teacher 0 0;"
            + "room 0;room 0;room 1;classes 3;";

    public static void main(String[] args) {
        numbersOfThings();
        taughtBeforeAll();
        coverOrder();
        coverBusy();
        superviseOrder();
        superviseAtMostTwo();
        exchangeOrder();
        exchangeBusyWithBoth();
        exchangeAbsentOnTheDay();
        exchangeOpenOnes();
        moveOrder();
        moveWithoutTeacher();
        moveAbsentOnTheDay();
        roomOrder();
        candidatesAtBothEnds();
        chainNeedsAnOpenLesson();
        chainTeacherIndex();
        chainLastOne();
        chainBetween();
        chainAbsentOnTheDay();
        fewestBeforeLeastLoad();
        leastLoadBeforeOrder();
        lexicographicAtEachPlace();
        chainWithTheFirstTeacher();
        chainAfterAnother();
        partners();
        slotsAtBothEnds();
        Check.end();
    }

    private static void numbersOfThings() {
        SubstituteDesk desk = Check.school(HEAD + "lesson 0 0 0 0 0;lesson 1 0 0 0 0;");
        Check.numbered("whyNotCover lesson", 2, k -> desk.whyNotCover(k, 0));
        Check.numbered("whyNotCover teacher", 4, k -> desk.whyNotCover(0, k));
        Check.numbered("whyNotSupervise lesson", 2, k -> desk.whyNotSupervise(k, 0));
        Check.numbered("whyNotSupervise teacher", 4, k -> desk.whyNotSupervise(0, k));
        Check.numbered("whyNotExchange lesson", 2, k -> desk.whyNotExchange(k, 0));
        Check.numbered("whyNotExchange other", 2, k -> desk.whyNotExchange(0, k));
        Check.numbered("whyNotMove lesson", 2, k -> desk.whyNotMove(k, 0));
        Check.numbered("whyNotMove slot", 6, k -> desk.whyNotMove(0, k));
        Check.numbered("whyNotRoom lesson", 2, k -> desk.whyNotRoom(k, 0));
        Check.numbered("whyNotRoom room", 3, k -> desk.whyNotRoom(0, k));
        Check.numbered("candidates", 2, desk::candidates);
        Check.numbered("chain", 2, desk::chain);
        Check.numbered("chainTeacher", 2, k -> desk.chainTeacher(k, -1));
        Check.numbered("partners", 2, desk::partners);
        Check.numbered("firstPartner", 2, desk::firstPartner);
        Check.numbered("slotsFor", 2, desk::slotsFor);
        desk.reopen(0);
        Check.numbered("whyNotCover teacher of an open one", 4, k -> desk.whyNotCover(0, k));
        Check.numbered("whyNotSupervise teacher of an open one", 4, k -> desk.whyNotSupervise(0, k));
        Check.refused("chainTeacher: the lesson before the index", IndexOutOfBoundsException.class,
                () -> desk.chainTeacher(2, 9));
    }

    // ---- promise 18

    /** Reason 1 of cover, with each other reason. */
    private static void taughtBeforeAll() {
        SubstituteDesk desk = Check.school(HEAD + "lesson 0 0 0 0 0;lesson 0 1 1 1 2;lesson 1 0 0 0 0;");
        desk.setAbsent(2, 0, true);
        Check.same("taught, absent and not qualified", desk.whyNotCover(0, 2), 1);
        Check.same("taught and busy", desk.whyNotCover(0, 1), 1);
        Check.same("taught by the same", desk.whyNotCover(0, 0), 1);
        Check.same("taught and a load of MOST", desk.whyNotCover(0, 3), 1);
        desk.reopen(0);
        Check.same("open and absent", desk.whyNotCover(0, 2), 2);
        Check.same("open and busy", desk.whyNotCover(0, 1), 4);
        Check.same("open", desk.whyNotCover(0, 0), 0);
        Check.same("open and a load of MOST", desk.whyNotCover(0, 3), 5);
        desk.supervise(0, 0);
        Check.same("supervised, by another", desk.whyNotCover(0, 3), 5);
        Check.same("supervised, by the same", desk.whyNotCover(0, 0), 4);
    }

    private static void coverOrder() {
        SubstituteDesk desk = Check.school(HEAD + "lesson 0 0 0 0 0;lesson 0 1 1 1 2;lesson 1 2 1 2 2;lesson 0 2 0 3 1;");
        desk.reopen(0);
        desk.setAbsent(2, 0, true);
        Check.same("absent and not qualified", desk.whyNotCover(0, 2), 2);
        desk.setAbsent(2, 0, false);
        desk.cover(2, 2);
        Check.same("not qualified and a load of MOST", desk.whyNotCover(0, 2), 3);
        Check.same("busy and a load of MOST", desk.whyNotCover(0, 3), 4);
        desk.setAbsent(3, 0, true);
        Check.same("absent, not busy any more", desk.whyNotCover(0, 3), 2);
        desk.supervise(3, 2);
        Check.same("not qualified and busy", desk.whyNotCover(0, 2), 3);
        desk.setAbsent(3, 0, false);
        Check.same("present again, load -1", desk.whyNotCover(0, 3), 0);
        desk.cover(0, 3);
        desk.reopen(0);
        desk.reopen(3);
        desk.cover(3, 3);
        desk.setAbsent(3, 1, true);
        Check.same("absent on the other day alone", desk.whyNotCover(0, 3), 4);
    }

    /** "busy in its slot": a lesson of the slots beside it does not matter. */
    private static void coverBusy() {
        SubstituteDesk desk = Check.school(HEAD + "lesson 1 0 0 0 0;lesson 0 1 0 1 1;lesson 2 1 0 1 1;");
        desk.reopen(0);
        Check.same("busy before and after", desk.whyNotCover(0, 1), 0);
        Check.same("may supervise too", desk.whyNotSupervise(0, 1), 0);
        Check.same("covers", desk.cover(0, 1), 1);
        desk.reopen(0);
        desk.move(1, 1);
        Check.same("busy there", desk.whyNotCover(0, 1), 4);
        Check.same("can't supervise", desk.whyNotSupervise(0, 1), 4);
    }

    // ---- promise 19

    private static void superviseOrder() {
        SubstituteDesk desk = Check.school(HEAD + "lesson 0 0 0 0 0;lesson 1 0 0 0 0;lesson 2 0 0 0 0;lesson 2 1 1 1 2;"
                + "lesson 0 1 1 1 2;");
        desk.setAbsent(3, 0, true);
        Check.same("taught and absent", desk.whyNotSupervise(0, 3), 1);
        Check.same("taught and busy", desk.whyNotSupervise(0, 1), 1);
        Check.same("taught by the same", desk.whyNotSupervise(0, 0), 1);
        desk.reopen(0);
        Check.same("open and absent", desk.whyNotSupervise(0, 3), 2);
        Check.same("open and busy", desk.whyNotSupervise(0, 1), 4);
        desk.supervise(0, 2);
        Check.same("supervised and absent", desk.whyNotSupervise(0, 3), 1);
        Check.same("supervised by the same", desk.whyNotSupervise(0, 2), 1);
        desk.reopen(1);
        desk.supervise(1, 2);
        Check.same("taught and two duties", desk.whyNotSupervise(2, 2), 1);
        desk.reopen(3);
        Check.same("open and two duties", desk.whyNotSupervise(3, 2), 6);
        desk.reopen(2);
        desk.supervise(2, 0);
        Check.same("supervised and two duties", desk.whyNotSupervise(2, 2), 1);
        desk.reopen(4);
        Check.same("busy and two duties", desk.whyNotSupervise(4, 2), 4);
        Check.same("MOST does not matter", desk.whyNotSupervise(4, 0), 0);
    }

    private static void superviseAtMostTwo() {
        SubstituteDesk desk = Check.school(HEAD + "lesson 0 0 0 0 0;lesson 1 0 0 0 0;lesson 2 0 0 0 0;lesson 3 0 0 0 0;");
        int[] due = {0, 0, 6};
        for (int i = 0; i < 3; i++) {
            desk.reopen(i);
            Check.same("with duties: " + i, desk.whyNotSupervise(i, 2), due[i]);
            if (due[i] == 0) {
                desk.supervise(i, 2);
            }
        }
        desk.reopen(3);
        Check.same("on the next day", desk.whyNotSupervise(3, 2), 0);
        desk.move(2, 4);
        Check.same("moved to the next day", desk.whyNotSupervise(2, 2), 0);
        desk.move(2, 2);
        desk.move(0, 5);
        Check.same("a duty moved to the next day", desk.whyNotSupervise(2, 2), 0);
        Check.same("one there already", desk.whyNotSupervise(3, 2), 0);
    }

    // ---- promise 20

    /** Lessons 0 and 1 are exchanged; the others stand in the way, and are made to go one by one. */
    private static void exchangeOrder() {
        SubstituteDesk desk = Check.school("grid 2 3;subject 0;" + "teacher 9 0;".repeat(4) + "room 0;".repeat(4)
                + "classes 4;lesson 0 0 0 0 0;lesson 3 0 0 1 1;lesson 3 1 0 0 2;lesson 3 2 0 2 0;lesson 0 3 0 3 3;");
        desk.setAbsent(1, 0, true);
        bothWays(desk, 0, 1, 4);
        bothWays(desk, 0, 4, 1);
        desk.reopen(4);
        bothWays(desk, 0, 4, 1);
        bothWays(desk, 1, 2, 1);
        desk.reopen(0);
        bothWays(desk, 0, 1, 3);
        Check.same("open and one lesson", desk.whyNotExchange(0, 0), 2);
        bothWays(desk, 0, 3, 1);
        desk.undo();
        desk.setAbsent(1, 0, false);
        bothWays(desk, 0, 1, 5);
        desk.reopen(1);
        bothWays(desk, 0, 1, 3);
        desk.undo();
        desk.move(2, 4);
        bothWays(desk, 0, 1, 6);
        desk.reopen(1);
        bothWays(desk, 0, 1, 3);
        desk.undo();
        desk.setAbsent(0, 1, true);
        bothWays(desk, 0, 1, 4);
        desk.undo();
        desk.setRoom(3, 3);
        bothWays(desk, 0, 1, 0);
    }

    private static void bothWays(SubstituteDesk desk, int lesson, int other, int reason) {
        Check.same("whyNotExchange", desk.whyNotExchange(lesson, other), reason);
        Check.same("whyNotExchange, the other way", desk.whyNotExchange(other, lesson), reason);
    }

    /** "with a lesson that is neither of both" and "has a lesson [..] that is neither of both" */
    private static void exchangeBusyWithBoth() {
        SubstituteDesk desk = Check.school(HEAD + "lesson 0 0 0 0 0;lesson 1 0 0 0 0;lesson 1 1 0 1 1;lesson 0 1 0 1 1;");
        bothWays(desk, 0, 1, 0);
        bothWays(desk, 2, 3, 0);
        desk.exchange(0, 1);
        bothWays(desk, 0, 1, 0);
        desk.reopen(0);
        desk.reopen(2);
        desk.supervise(0, 3);
        desk.supervise(2, 2);
        bothWays(desk, 0, 1, 0);
        desk.reopen(3);
        desk.supervise(3, 3);
        bothWays(desk, 0, 1, 5);
        bothWays(desk, 2, 3, 5);
    }

    /** "absent on the day of the other one": the day of the lesson itself does not matter, nor do days beside it. */
    private static void exchangeAbsentOnTheDay() {
        for (int day = 0; day < 3; day++) {
            SubstituteDesk desk = Check.school("grid 3 2;subject 0;teacher 9 0;teacher 9 0;room 0;classes 1;"
                    + "lesson 2 0 0 0 0;lesson 3 0 0 0 0;lesson 1 0 0 1 0;lesson 4 0 0 1 0;");
            desk.setAbsent(0, day, true);
            if (day != 1) {
                bothWays(desk, 0, 1, 0);
                bothWays(desk, 0, 2, day == 0 ? 4 : 0);
                bothWays(desk, 1, 3, day == 2 ? 4 : 0);
            } else {
                bothWays(desk, 2, 3, 0);
                bothWays(desk, 0, 2, 3);
            }
        }
        SubstituteDesk supervised = Check.school(HEAD + "lesson 2 0 0 0 0;lesson 3 0 0 1 0;");
        supervised.reopen(0);
        supervised.supervise(0, 2);
        supervised.setAbsent(2, 1, true);
        bothWays(supervised, 0, 1, 4);
        supervised.setAbsent(2, 1, false);
        supervised.setAbsent(0, 1, true);
        bothWays(supervised, 0, 1, 0);
    }

    private static void exchangeOpenOnes() {
        SubstituteDesk desk = Check.school(HEAD + "lesson 2 0 0 0 0;lesson 3 0 0 0 0;");
        desk.reopen(0);
        bothWays(desk, 0, 1, 3);
        desk.reopen(1);
        bothWays(desk, 0, 1, 3);
        desk.supervise(0, 2);
        bothWays(desk, 0, 1, 3);
        desk.supervise(1, 2);
        bothWays(desk, 0, 1, 0);
    }

    // ---- promises 21 and 22

    /** Lesson 0 moves to slot 3; the others stand in the way, and are made to go one by one. */
    private static void moveOrder() {
        SubstituteDesk desk = Check.school("grid 2 3;subject 0;" + "teacher 9 0;".repeat(3) + "room 0;".repeat(3)
                + "classes 3;lesson 0 0 0 0 0;lesson 3 0 0 1 1;lesson 3 1 0 0 2;lesson 3 2 0 2 0;");
        Check.same("it is there, with its class, teacher and room", desk.whyNotMove(0, 0), 2);
        Check.same("class, teacher and room", desk.whyNotMove(0, 3), 1);
        desk.setAbsent(0, 1, true);
        Check.same("class, absent and room", desk.whyNotMove(0, 3), 1);
        desk.move(1, 5);
        Check.same("absent and room", desk.whyNotMove(0, 3), 4);
        desk.setAbsent(0, 1, false);
        Check.same("room", desk.whyNotMove(0, 3), 6);
        desk.cover(2, 0);
        Check.same("teacher and room", desk.whyNotMove(0, 3), 5);
        desk.setRoom(3, 1);
        Check.same("teacher", desk.whyNotMove(0, 3), 5);
        desk.reopen(2);
        Check.same("nothing", desk.whyNotMove(0, 3), 0);
        Check.same("it moves", desk.move(0, 3), 0);
        Check.same("it is there", desk.whyNotMove(0, 3), 2);
        Check.same("its own slot is free", desk.whyNotMove(0, 0), 0);
    }

    /** "it has a teacher, who .." */
    private static void moveWithoutTeacher() {
        SubstituteDesk desk = Check.school(HEAD + "lesson 0 0 0 0 0;lesson 3 1 1 1 2;");
        desk.reopen(0);
        desk.reopen(1);
        Check.same("open, beside an open one", desk.whyNotMove(0, 3), 0);
        desk.setAbsent(0, 1, true);
        desk.setAbsent(1, 1, true);
        Check.same("open, whoever is absent", desk.whyNotMove(0, 3), 0);
        Check.same("open: the class", desk.whyNotMove(0, 0), 2);
        desk.supervise(1, 2);
        desk.supervise(0, 2);
        Check.same("supervised by one who is busy there", desk.whyNotMove(0, 3), 5);
        desk.reopen(0);
        Check.same("open again", desk.whyNotMove(0, 3), 0);
    }

    private static void moveAbsentOnTheDay() {
        SubstituteDesk desk = Check.school("grid 3 2;subject 0;teacher 9 0;room 0;classes 1;lesson 0 0 0 0 0;");
        desk.setAbsent(0, 1, true);
        int[] due = {2, 0, 4, 4, 0, 0};
        for (int slot = 0; slot < 6; slot++) {
            Check.same("to slot " + slot, desk.whyNotMove(0, slot), due[slot]);
        }
        Check.same("slots", desk.slotsFor(0), 0b110010);
    }

    private static void roomOrder() {
        SubstituteDesk desk = Check.school(HEAD + "lesson 0 0 0 0 0;lesson 0 1 0 1 1;lesson 0 2 1 2 2;lesson 1 2 1 2 2;");
        Check.same("it has it, and is there", desk.whyNotRoom(0, 0), 2);
        Check.same("another kind, and a lesson", desk.whyNotRoom(0, 2), 7);
        Check.same("another kind, and a lesson", desk.whyNotRoom(2, 0), 7);
        Check.same("another kind alone", desk.whyNotRoom(3, 0), 7);
        Check.same("a lesson", desk.whyNotRoom(0, 1), 6);
        Check.same("a lesson", desk.whyNotRoom(1, 0), 6);
        desk.reopen(1);
        Check.same("an open lesson", desk.whyNotRoom(0, 1), 6);
        desk.move(1, 2);
        Check.same("none in its slot", desk.whyNotRoom(0, 1), 0);
        Check.same("in the slot beside it", desk.whyNotRoom(1, 0), 0);
        desk.setRoom(0, 1);
        Check.same("it has it now", desk.whyNotRoom(0, 1), 2);
        Check.same("the first one is free now", desk.whyNotRoom(0, 0), 0);
    }

    // ---- promises 23 to 25

    private static void candidatesAtBothEnds() {
        SubstituteDesk desk = Check.school("grid 1 2;subject 0;subject 0;" + "teacher 1 0;".repeat(8)
                + "room 0;room 0;classes 2;lesson 0 0 0 3 0;lesson 1 0 0 0 0;");
        Check.same("taught", desk.candidates(0), 0);
        desk.reopen(0);
        Check.same("all eight", desk.candidates(0), 255);
        desk.setAbsent(0, 0, true);
        Check.same("without the first", desk.candidates(0), 254);
        desk.setAbsent(7, 0, true);
        Check.same("without the last", desk.candidates(0), 126);
        desk.supervise(0, 4);
        Check.same("without who supervises", desk.candidates(0), 110);
        desk.cover(1, 6);
        Check.same("without who has a load of MOST", desk.candidates(0), 46);
        for (int k = 0; k < 8; k++) {
            desk.setAbsent(k, 0, true);
        }
        Check.same("none", desk.candidates(0), 0);
    }

    /** "0 if the lesson is open and there is no chain, or it is not open" */
    private static void chainNeedsAnOpenLesson() {
        SubstituteDesk desk = Check.school(HEAD + "lesson 0 0 0 0 0;");
        chainIs("taught", desk, 0);
        desk.reopen(0);
        chainIs("open", desk, 0, 0);
        desk.supervise(0, 3);
        chainIs("supervised", desk, 0);
        desk.reopen(0);
        desk.setAbsent(0, 0, true);
        chainIs("open", desk, 0, 1);
        desk.setAbsent(1, 0, true);
        chainIs("teacher 3 has a load of MOST", desk, 0);
    }

    private static void chainIs(String what, SubstituteDesk desk, int lesson, int... due) {
        Check.same(what + ": chain", desk.chain(lesson), due.length);
        for (int k = 0; k < due.length; k++) {
            Check.same(what + ": chainTeacher " + k, desk.chainTeacher(lesson, k), due[k]);
        }
        for (int bad : new int[] {-1, due.length, due.length + 1, 4, 5, Integer.MAX_VALUE, Integer.MIN_VALUE}) {
            Check.refused(what + ": chainTeacher " + bad, NoSuchElementException.class,
                    () -> desk.chainTeacher(lesson, bad));
        }
    }

    /** Six subjects; lesson k of slot 0 is of subject k and teacher k; slot 1 has these lessons of the last teacher. */
    private static SubstituteDesk slot(String teachers, int lessons, int... ofSlotOne) {
        StringBuilder text = new StringBuilder("grid 2 3;" + "subject 0;".repeat(6) + teachers + "room 0;".repeat(6)
                + "classes 6;");
        for (int k = 0; k < lessons; k++) {
            text.append("lesson 0 ").append(k).append(' ').append(k).append(' ').append(k).append(' ').append(k)
                    .append(';');
        }
        for (int i = 0; i < ofSlotOne.length; i += 2) {
            text.append("lesson ").append(1 + i / 2).append(" 0 ").append(ofSlotOne[i]).append(' ')
                    .append(ofSlotOne[i + 1]).append(" 0;");
        }
        SubstituteDesk desk = Check.school(text.toString());
        desk.setAbsent(0, 0, true);
        return desk;
    }

    private static void chainTeacherIndex() {
        SubstituteDesk desk = slot("teacher 0 0;teacher 0 1 0;teacher 0 2 1;teacher 0 3 2;teacher 1 3;", 4);
        chainIs("four", desk, 0, 1, 2, 3, 4);
        desk.reopen(3);
        chainIs("three, with the last free", desk, 0, 1, 2, 3);
        desk.reopen(2);
        chainIs("two", desk, 0, 1, 2);
        desk.reopen(1);
        chainIs("one", desk, 0, 1);
        desk.setAbsent(1, 0, true);
        chainIs("none", desk, 0);
    }

    /** "the last one is free in this slot and has a load less than MOST" */
    private static void chainLastOne() {
        for (int most = 0; most <= 9; most++) {
            SubstituteDesk desk = slot("teacher 9 0;teacher 9 1 0;teacher " + most + " 1 2;", 2, 0, 1, 1, 1);
            desk.reopen(2);
            desk.reopen(3);
            if (most == 0) {
                chainIs("load 0 of MOST 0", desk, 0);
            } else {
                chainIs("load 0 of MOST " + most, desk, 0, 1, 2);
                Check.same("load 1", desk.cover(3, 2), 1);
            }
            if (most == 1) {
                chainIs("load 1 of MOST 1", desk, 0);
                desk.reopen(3);
                desk.supervise(3, 2);
                chainIs("duties do not matter", desk, 0, 1, 2);
            } else if (most > 1) {
                chainIs("load 1 of MOST " + most, desk, 0, 1, 2);
            }
        }
        SubstituteDesk desk = slot("teacher 9 0;teacher 9 1 0;teacher 9 1 2;", 3);
        chainIs("the last teaches in this slot", desk, 0);
        desk.reopen(2);
        chainIs("free", desk, 0, 1, 2);
        desk.supervise(2, 2);
        chainIs("the last supervises in this slot", desk, 0);
        desk.move(2, 1);
        chainIs("in the slot beside it", desk, 0, 1, 2);
    }

    /** "each but the last teaches (does not supervise) a lesson in this slot, for which the next one is qualified" */
    private static void chainBetween() {
        SubstituteDesk desk = slot("teacher 9 0;teacher 0 1 0;teacher 9 1 2;teacher 9 2;", 3);
        chainIs("MOST of those before does not matter", desk, 0, 1, 2, 3);
        desk.reopen(1);
        desk.supervise(1, 1);
        chainIs("who supervises", desk, 0);
        desk.reopen(1);
        desk.cover(1, 1);
        chainIs("teaches again", desk, 0, 1, 2, 3);
        desk.move(1, 1);
        chainIs("teaches in the slot beside it, and has a load of MOST", desk, 0);
        SubstituteDesk unqualified = slot("teacher 9 0;teacher 9 1 0;teacher 9 2;", 2);
        chainIs("nobody is qualified for the next", unqualified, 0);
        SubstituteDesk round = slot("teacher 9 0;teacher 9 1 0 2;teacher 9 2 1 0;teacher 9 3;", 3);
        chainIs("nobody comes twice", round, 0);
    }

    /** "who are not absent on its day" */
    private static void chainAbsentOnTheDay() {
        SubstituteDesk desk = slot("teacher 9 0;teacher 9 1 0;teacher 9 1;teacher 9 1;", 2);
        chainIs("present", desk, 0, 1, 2);
        desk.setAbsent(2, 1, true);
        chainIs("absent on the next day", desk, 0, 1, 2);
        desk.setAbsent(2, 0, true);
        chainIs("absent on the day", desk, 0, 1, 3);
        desk.setAbsent(2, 0, false);
        chainIs("present again", desk, 0, 1, 2);
        desk.setAbsent(1, 0, true);
        chainIs("the first one absent", desk, 0);
        desk.move(0, 3);
        desk.setAbsent(1, 1, false);
        chainIs("on the next day", desk, 0, 0);
    }

    /** "the one with the fewest teachers" though its last one has the greater load and its numbers are greater */
    private static void fewestBeforeLeastLoad() {
        SubstituteDesk desk = slot("teacher 9 0;teacher 9 1 0;teacher 9 1;teacher 9 0 2;", 2, 2, 3, 1, 2);
        desk.reopen(3);
        chainIs("one with load 0 before two with load -1", desk, 0, 3);
        desk.setAbsent(3, 0, true);
        chainIs("two", desk, 0, 1, 2);
        SubstituteDesk three = slot("teacher 9 0;teacher 9 1 0;teacher 9 2 1;teacher 9 2;teacher 9 1;", 3, 2, 3);
        three.reopen(3);
        chainIs("two with load 0 before three with load -1", three, 0, 1, 4);
        three.setAbsent(4, 0, true);
        chainIs("three", three, 0, 1, 2, 3);
    }

    /** "of several the one whose last teacher has the least load" though its numbers are greater */
    private static void leastLoadBeforeOrder() {
        SubstituteDesk desk = slot("teacher 9 0;teacher 9 0 1;teacher 9 0 1;teacher 9 0 1;", 1, 1, 1, 1, 2, 1, 3);
        chainIs("equal loads", desk, 0, 1);
        desk.reopen(3);
        chainIs("-1 of the last", desk, 0, 3);
        desk.reopen(2);
        chainIs("-1 of both", desk, 0, 2);
        desk.cover(3, 2);
        chainIs("0 and -1", desk, 0, 3);
        desk.cover(2, 1);
        chainIs("1, 0 and -1", desk, 0, 3);
        desk.setAbsent(3, 0, true);
        chainIs("1 and 0", desk, 0, 2);
        SubstituteDesk two = slot("teacher 9 0;teacher 9 0 1;teacher 9 0 2;teacher 9 2 3;teacher 9 1 3;", 3, 3, 3, 3, 4);
        chainIs("equal loads", two, 0, 1, 4);
        two.reopen(3);
        chainIs("the last one, not the first, has it", two, 0, 2, 3);
    }

    /** "the lexicographically least sequence (of numbers of teachers)", told apart at each place of it */
    private static void lexicographicAtEachPlace() {
        chainIs("by the only one", slot("teacher 9 0;teacher 9 1;teacher 9 0;teacher 9 0;", 2), 0, 2);
        chainIs("at the first place", slot("teacher 9 0;teacher 9 1 0;teacher 9 2 0;teacher 9 2;teacher 9 1;", 3), 0, 1, 4);
        chainIs("at the second place", slot("teacher 9 0;teacher 9 1 0;teacher 9 2;teacher 9 1;teacher 9 1;", 3), 0, 1, 3);
        chainIs("at the second of three",
                slot("teacher 9 0;teacher 9 1 0;teacher 9 2 1;teacher 9 3 1;teacher 9 3;teacher 9 2;", 4), 0, 1, 2, 5);
        chainIs("at the third of three",
                slot("teacher 9 0;teacher 9 1 0;teacher 9 2 1;teacher 9 3;teacher 9 2;teacher 9 2;", 4), 0, 1, 2, 4);
        chainIs("at the third of four",
                slot("teacher 9 0;teacher 9 1 0;teacher 9 2 1;teacher 9 3 2;teacher 9 4 2;teacher 9 4;teacher 9 3;", 5), 0,
                1, 2, 3, 6);
        chainIs("at the fourth of four",
                slot("teacher 9 0;teacher 9 1 0;teacher 9 2 1;teacher 9 3 2;teacher 9 4;teacher 9 3;teacher 9 3;", 5), 0,
                1, 2, 3, 5);
        chainIs("the lowest leads nowhere",
                slot("teacher 9 0;teacher 9 1 0;teacher 9 2 0;teacher 9 2;teacher 9 3;", 3), 0, 2, 3);
        chainIs("the lowest leads to what is too long",
                slot("teacher 9 0;teacher 9 1 0;teacher 9 2 1 0;teacher 9 3;teacher 9 2;", 4), 0, 2, 4);
    }

    /** Teacher 0 is in a chain only where the document has teacher 0 there. */
    private static void chainWithTheFirstTeacher() {
        String free = "teacher 9 3;";
        SubstituteDesk desk = withoutTheFirst(free + "teacher 0 1;teacher 9 0;", 0);
        chainIs("free, but not qualified, beside one with a load of MOST", desk, 0);
        desk = withoutTheFirst(free + "teacher 9 1;teacher 9 0;", 0);
        chainIs("free, but not qualified, beside a free one", desk, 0, 1);
        desk = withoutTheFirst(free + "teacher 9 1 2;teacher 9 0;", 2);
        chainIs("free, but not qualified for what is left", desk, 0);
        desk = withoutTheFirst("teacher 9 2;teacher 9 1 2;teacher 9 0;", 2);
        chainIs("free, and qualified for what is left", desk, 0, 1, 0);
        SubstituteDesk two = slot("teacher 9 0 1;teacher 9 1;teacher 9 2 1;teacher 9 2;", 3);
        two.setAbsent(0, 0, false);
        two.cover(0, 0);
        two.setAbsent(1, 0, true);
        chainIs("busy, with what only the absent one could teach", two, 1, 2, 3);
        Check.same("repaired", two.repair(1), 2);
        two.setAbsent(1, 0, false);
        two.setAbsent(2, 0, true);
        chainIs("free, and not by the busy one", two, 1, 1);
    }

    /** Lesson 0, of subject 1, is opened; teacher 1 has lesson 1 of the subject in the same slot, but for 0. */
    private static SubstituteDesk withoutTheFirst(String teachers, int subject) {
        String busy = subject > 0 ? "lesson 0 1 " + subject + " 1 1;" : "";
        SubstituteDesk desk = Check.school("grid 1 2;" + "subject 0;".repeat(4) + teachers + "teacher 9 1;"
                + "room 0;room 0;classes 2;lesson 0 0 1 3 0;" + busy);
        desk.setAbsent(3, 0, true);
        return desk;
    }

    /** Where a chain was looked for before does not matter. */
    private static void chainAfterAnother() {
        SubstituteDesk desk = Check.school("grid 1 3;" + "subject 0;".repeat(3) + "teacher 0 0 1;teacher 9 1;teacher 9 0;"
                + "room 0;room 0;room 0;classes 3;lesson 0 0 0 2 0;lesson 0 1 1 0 1;lesson 1 0 0 2 0;");
        desk.setAbsent(2, 0, true);
        for (int i = 0; i < 3; i++) {
            chainIs("busy with what another can teach", desk, 0, 0, 1);
            chainIs("free, with a load of MOST", desk, 2);
        }
    }

    // ---- promises 26 to 28

    private static void partners() {
        SubstituteDesk desk = Check.school("grid 2 3;subject 0;teacher 9 0;teacher 9 0;room 0;room 0;classes 3;"
                + "lesson 0 0 0 0 0;lesson 0 1 0 1 1;lesson 1 0 0 0 0;lesson 4 0 0 0 0;lesson 5 1 0 1 1;lesson 5 0 0 0 0;");
        Check.same("with all of its class but itself", desk.partners(0), 3);
        Check.same("the lowest but itself", desk.firstPartner(0), 2);
        Check.same("the lowest", desk.firstPartner(5), 0);
        Check.same("one", desk.partners(1), 1);
        Check.same("the only one", desk.firstPartner(1), 4);
        Check.same("the only one", desk.firstPartner(4), 1);
        desk.reopen(0);
        Check.same("none of an open one", desk.partners(0), 0);
        Check.refused("none", NoSuchElementException.class, () -> desk.firstPartner(0));
        Check.same("one less", desk.partners(5), 2);
        Check.same("the next one", desk.firstPartner(5), 2);
        desk.reopen(4);
        Check.same("none", desk.partners(1), 0);
        Check.refused("none", NoSuchElementException.class, () -> desk.firstPartner(1));
        SubstituteDesk alone = new SubstituteDesk();
        Check.same("without another lesson", alone.partners(0), 0);
        Check.refused("without another lesson", NoSuchElementException.class, () -> alone.firstPartner(0));
    }

    private static void slotsAtBothEnds() {
        SubstituteDesk wide = Check.school("grid 5 6;subject 0;teacher 0 0;room 0;classes 1;lesson 29 0 0 0 0;");
        Check.same("all but the last", wide.slotsFor(0), (1 << 29) - 1);
        wide.move(0, 0);
        Check.same("all but the first", wide.slotsFor(0), (1 << 30) - 2);
        wide.setAbsent(0, 4, true);
        Check.same("not those of day 4", wide.slotsFor(0), (1 << 24) - 2);
        SubstituteDesk small = Check.school("grid 1 1;subject 0;teacher 0 0;room 0;classes 1;lesson 0 0 0 0 0;");
        Check.same("none of one slot", small.slotsFor(0), 0);
        SubstituteDesk two = new SubstituteDesk();
        Check.same("one of two", two.slotsFor(0), 2);
        two.move(0, 1);
        Check.same("the other one", two.slotsFor(0), 1);
    }
}
