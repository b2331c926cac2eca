import java.util.NoSuchElementException;

/** Promises 18 to 28: reasons, candidates, chains, partners and slots. */
public final class ReasonsTest {
    private static final String SCHOOL = "grid 2 3; subject 0; subject 1; teacher 1 0; teacher 2 0 1; teacher 0 1; "
            + "teacher 9 0; room 0; room 0; room 1; classes 3; "
            + "lesson 0 0 0 0 0; lesson 0 1 0 1 1; lesson 1 0 1 2 2; lesson 3 0 0 0 0; lesson 4 1 1 1 2;";

    public static void main(String[] args) {
        cover();
        coverOrder();
        supervise();
        superviseOrder();
        exchange();
        exchangeOrder();
        move();
        moveOrder();
        room();
        chainOfOne();
        chainOfTwo();
        chainOfFour();
        chainTooLong();
        chainTies();
        chainAmongMany();
        chainAvoids();
        partners();
        slots();
        wrongNumbers();
        Check.end();
    }

    private static void cover() {
        SubstituteDesk desk = Check.school(SCHOOL);
        Check.same("taught", desk.whyNotCover(0, 3), 1);
        Check.same("taught by itself", desk.whyNotCover(0, 0), 1);
        desk.setAbsent(0, 0, true);
        Check.same("absent", desk.whyNotCover(0, 0), 2);
        Check.same("busy", desk.whyNotCover(0, 1), 4);
        Check.same("not qualified", desk.whyNotCover(0, 2), 3);
        Check.same("possible", desk.whyNotCover(0, 3), 0);
        Check.same("candidates", desk.candidates(0), 8);
        desk.reopen(1);
        Check.same("candidates", desk.candidates(0), 10);
        desk.supervise(0, 3);
        Check.same("supervises this one", desk.whyNotCover(0, 3), 4);
        Check.same("in place of who supervised", desk.candidates(0), 2);
        Check.same("covers", desk.cover(0, 1), 0);
        Check.same("candidates of a taught one", desk.candidates(0), 0);
    }

    private static void coverOrder() {
        SubstituteDesk desk = Check.school(SCHOOL);
        desk.setAbsent(3, 0, true);
        Check.same("taught before absent", desk.whyNotCover(0, 3), 1);
        desk.reopen(0);
        desk.setAbsent(2, 0, true);
        Check.same("absent before not qualified", desk.whyNotCover(0, 2), 2);
        desk.setAbsent(2, 0, false);
        desk.supervise(0, 2);
        Check.same("not qualified before busy", desk.whyNotCover(0, 2), 3);
        desk.reopen(0);
        Check.same("load 0 again", desk.cover(2, 2), 0);
        desk.reopen(4);
        Check.same("load 0 of most 0", desk.whyNotCover(4, 2), 5);
        desk.supervise(4, 2);
        Check.same("busy before the load", desk.whyNotCover(4, 2), 4);
        desk.reopen(4);
        desk.reopen(2);
        Check.same("load -1 of most 0", desk.whyNotCover(4, 2), 0);
        Check.same("load 0 then", desk.cover(4, 2), 0);
        Check.same("load 0 of most 0", desk.whyNotCover(2, 2), 5);
    }

    private static void supervise() {
        SubstituteDesk desk = Check.school("grid 2 4; subject 0; subject 0; teacher 0 0; teacher 0 1; teacher 0 1; "
                + "room 0; room 0; classes 2; lesson 0 0 0 0 0; lesson 1 0 0 0 0; lesson 2 0 0 0 0; lesson 4 0 0 0 0; "
                + "lesson 3 0 0 0 0; lesson 3 1 1 1 1;");
        Check.same("not open", desk.whyNotSupervise(0, 1), 1);
        desk.setAbsent(0, 0, true);
        Check.same("absent", desk.whyNotSupervise(0, 0), 2);
        Check.same("need not be qualified", desk.whyNotSupervise(0, 1), 0);
        Check.same("busy", desk.whyNotSupervise(4, 1), 4);
        Check.same("first duty", desk.supervise(0, 1), 1);
        Check.same("not open", desk.whyNotSupervise(0, 2), 1);
        Check.same("one duty", desk.whyNotSupervise(1, 1), 0);
        Check.same("second duty", desk.supervise(1, 1), 2);
        Check.same("two duties on the day", desk.whyNotSupervise(2, 1), 6);
        Check.same("busy before two duties", desk.whyNotSupervise(4, 1), 4);
        desk.reopen(3);
        Check.same("another day", desk.whyNotSupervise(3, 1), 0);
        Check.same("third duty of all", desk.supervise(3, 1), 3);
        desk.move(1, 5);
        Check.same("a duty moved to the other day", desk.whyNotSupervise(2, 1), 0);
        Check.same("third on the day by a move", desk.supervise(2, 1), 4);
        desk.move(1, 1);
        desk.reopen(3);
        Check.same("three on the day", desk.teacher(1, 5), 3);
        desk.reopen(5);
        Check.same("more than two", desk.whyNotSupervise(5, 1), 6);
    }

    private static void superviseOrder() {
        SubstituteDesk desk = Check.school(SCHOOL);
        desk.setAbsent(1, 0, true);
        Check.same("not open before absent", desk.whyNotSupervise(0, 1), 1);
        Check.same("absent", desk.whyNotSupervise(1, 1), 2);
        desk.setAbsent(1, 0, false);
        desk.supervise(1, 1);
        Check.same("not open before busy", desk.whyNotSupervise(1, 1), 1);
    }

    private static void exchange() {
        SubstituteDesk desk = Check.school(SCHOOL);
        Check.same("possible", desk.whyNotExchange(0, 2), 0);
        Check.same("the same teacher and room", desk.whyNotExchange(0, 3), 0);
        Check.same("different classes", desk.whyNotExchange(0, 4), 1);
        Check.same("one lesson", desk.whyNotExchange(2, 2), 2);
        Check.same("teacher 1 is busy with both alone", desk.whyNotExchange(1, 4), 0);
        desk.reopen(2);
        Check.same("open", desk.whyNotExchange(0, 2), 3);
        Check.same("open", desk.whyNotExchange(2, 0), 3);
        desk.supervise(2, 3);
        Check.same("supervised is not open", desk.whyNotExchange(2, 3), 0);
        desk.setAbsent(3, 1, true);
        Check.same("a supervisor is absent there", desk.whyNotExchange(2, 3), 4);
        Check.same("and the other way", desk.whyNotExchange(3, 2), 4);
        Check.same("on one day only", desk.whyNotExchange(2, 0), 0);
    }

    private static void exchangeOrder() {
        SubstituteDesk desk = Check.school("grid 2 2; subject 0; teacher 1 0; teacher 1 0; teacher 1 0; teacher 1 0; "
                + "room 0; room 0; room 0; room 0; classes 3; lesson 0 0 0 0 0; lesson 2 0 0 1 1; lesson 2 1 0 0 2; "
                + "lesson 0 2 0 2 1; lesson 0 1 0 3 3;");
        Check.same("different classes before the slot", desk.whyNotExchange(0, 3), 1);
        Check.same("busy there with a third", desk.whyNotExchange(0, 1), 5);
        Check.same("and the other way", desk.whyNotExchange(1, 0), 5);
        desk.setAbsent(1, 0, true);
        Check.same("absent before busy", desk.whyNotExchange(0, 1), 4);
        desk.setAbsent(1, 0, false);
        desk.reopen(2);
        Check.same("the room has a third", desk.whyNotExchange(0, 1), 6);
        Check.same("and the other way", desk.whyNotExchange(1, 0), 6);
        desk.setRoom(3, 2);
        Check.same("possible then", desk.whyNotExchange(0, 1), 0);
        Check.same("open before absent", desk.whyNotExchange(2, 4), 3);
        desk.reopen(0);
        Check.same("slot before open", desk.whyNotExchange(0, 0), 2);
        desk.setAbsent(1, 0, true);
        Check.same("open before absent", desk.whyNotExchange(0, 1), 3);
    }

    private static void move() {
        SubstituteDesk desk = Check.school(SCHOOL);
        Check.same("it is there", desk.whyNotMove(0, 0), 2);
        Check.same("its class has a lesson", desk.whyNotMove(0, 1), 1);
        Check.same("possible", desk.whyNotMove(0, 2), 0);
        Check.same("its class has a lesson", desk.whyNotMove(1, 4), 1);
        Check.same("another class has a lesson", desk.whyNotMove(1, 3), 0);
        Check.same("slots of 0", desk.slotsFor(0), 0b110100);
        desk.setAbsent(0, 1, true);
        Check.same("absent there", desk.whyNotMove(0, 4), 4);
        Check.same("slots of 0", desk.slotsFor(0), 0b000100);
        desk.reopen(0);
        Check.same("open: nobody is absent", desk.whyNotMove(0, 4), 0);
        desk.reopen(1);
        desk.supervise(0, 1);
        Check.same("who supervises is busy there", desk.whyNotMove(0, 4), 5);
        desk.reopen(4);
        Check.same("nobody is busy there", desk.whyNotMove(0, 4), 0);
    }

    private static void moveOrder() {
        SubstituteDesk desk = Check.school("grid 2 1; subject 0; teacher 1 0; teacher 1 0; room 0; room 0; classes 3; "
                + "lesson 0 0 0 0 0; lesson 1 1 0 0 0; lesson 0 1 0 1 1;");
        Check.same("busy before the room", desk.whyNotMove(0, 1), 5);
        Check.same("the class before the rest", desk.whyNotMove(2, 1), 1);
        Check.same("there before the class", desk.whyNotMove(2, 0), 2);
        desk.setAbsent(0, 1, true);
        Check.same("absent before the room", desk.whyNotMove(0, 1), 4);
        desk.reopen(0);
        Check.same("the room", desk.whyNotMove(0, 1), 6);
        desk.supervise(0, 0);
        Check.same("absent supervisor", desk.whyNotMove(0, 1), 4);
        desk.setAbsent(0, 1, false);
        Check.same("the room", desk.whyNotMove(0, 1), 6);
        desk.setRoom(1, 1);
        Check.same("possible", desk.whyNotMove(0, 1), 0);
    }

    private static void room() {
        SubstituteDesk desk = Check.school(SCHOOL);
        Check.same("it has it", desk.whyNotRoom(0, 0), 2);
        Check.same("another kind", desk.whyNotRoom(0, 2), 7);
        Check.same("occupied", desk.whyNotRoom(0, 1), 6);
        Check.same("possible", desk.whyNotRoom(3, 1), 0);
        desk.move(4, 2);
        desk.exchange(0, 2);
        Check.same("another kind before occupied", desk.whyNotRoom(1, 2), 7);
        desk.reopen(0);
        Check.same("open lessons too", desk.whyNotRoom(0, 1), 0);
    }

    private static SubstituteDesk chained(String teachers, int number) {
        StringBuilder text = new StringBuilder("grid 1 1;" + "subject 0;".repeat(6) + teachers + "room 0;".repeat(6)
                + "classes 6;");
        for (int k = 0; k < number; k++) {
            text.append("lesson 0 ").append(k).append(' ').append(k).append(' ').append(k).append(' ').append(k)
                    .append(';');
        }
        return Check.school(text.toString());
    }

    private static void chainIs(String what, SubstituteDesk desk, int lesson, int... due) {
        Check.same(what + ": chain", desk.chain(lesson), due.length);
        for (int k = 0; k < due.length; k++) {
            Check.same(what + ": chainTeacher " + k, desk.chainTeacher(lesson, k), due[k]);
        }
        for (int bad : new int[] {-1, due.length, Integer.MAX_VALUE, Integer.MIN_VALUE}) {
            Check.refused(what + ": chainTeacher " + bad, NoSuchElementException.class,
                    () -> desk.chainTeacher(lesson, bad));
        }
    }

    private static void chainOfOne() {
        SubstituteDesk desk = chained("teacher 0 0;teacher 1 0;teacher 1 0;", 1);
        chainIs("taught", desk, 0);
        desk.reopen(0);
        chainIs("least load -1", desk, 0, 0);
        desk.setAbsent(0, 0, true);
        chainIs("lowest of equals", desk, 0, 1);
        desk.supervise(0, 1);
        chainIs("supervised", desk, 0);
    }

    private static void chainOfTwo() {
        SubstituteDesk desk = chained("teacher 9 0;teacher 9 1 0;teacher 1 1;", 2);
        desk.setAbsent(0, 0, true);
        chainIs("by a busy one", desk, 0, 1, 2);
        desk.reopen(1);
        chainIs("shorter then", desk, 0, 1);
        chainIs("of the other", desk, 1, 1);
        desk.supervise(1, 1);
        chainIs("who supervises can't stand in between", desk, 0);
    }

    private static void chainOfFour() {
        SubstituteDesk desk = chained("teacher 9 0;teacher 9 1 0;teacher 9 2 1;teacher 9 3 2;teacher 1 3;", 4);
        desk.setAbsent(0, 0, true);
        chainIs("four", desk, 0, 1, 2, 3, 4);
        Check.same("repair", desk.repair(0), 4);
        for (int k = 0; k < 4; k++) {
            Check.same("teacher of lesson " + k, desk.lesson(k, 3), k + 1);
        }
        Check.same("load of the last", desk.teacher(4, 4), 1);
        Check.same("load between", desk.teacher(2, 4), 0);
    }

    private static void chainTooLong() {
        SubstituteDesk desk = chained("teacher 9 0;teacher 9 1 0;teacher 9 2 1;teacher 9 3 2;teacher 9 4 3;"
                + "teacher 1 4;", 5);
        desk.setAbsent(0, 0, true);
        chainIs("five would be needed", desk, 0);
        Check.refused("repair", IllegalStateException.class, () -> desk.repair(0));
        desk.reopen(4);
        chainIs("the last is free now", desk, 0, 1, 2, 3, 4);
    }

    private static void chainTies() {
        // teachers 1 and 2 can both take lesson 0 and leave theirs; 3 to 5 are free
        SubstituteDesk desk = chained("teacher 9 0;teacher 9 1 0;teacher 9 2 0;teacher 3 1;teacher 3 2;teacher 3 1 2;",
                3);
        desk.setAbsent(0, 0, true);
        chainIs("lexicographically least", desk, 0, 1, 3);
        SubstituteDesk loads = Check.school("grid 1 2;" + "subject 0;".repeat(3) + "teacher 9 0;teacher 9 1 0;"
                + "teacher 9 2 0;teacher 3 1;teacher 3 2;room 0;room 0;room 0;room 0;classes 4;"
                + "lesson 0 0 0 0 0;lesson 0 1 1 1 1;lesson 0 2 2 2 2;lesson 1 0 2 4 0;lesson 1 1 1 3 1;");
        loads.reopen(3);
        loads.setAbsent(0, 0, true);
        chainIs("the least load of the last", loads, 0, 2, 4);
        loads.reopen(4);
        chainIs("equal loads", loads, 0, 1, 3);
    }

    private static void chainAmongMany() {
        // of the free ones 1, 3 and 4 have the least load, and teacher 0 is busy but could go on to them
        SubstituteDesk desk = chained("teacher 9 0 1;teacher 9 1;teacher 9 2;teacher 9 1;teacher 9 1;", 1);
        desk.setAbsent(0, 0, true);
        chainIs("only the absent one could", desk, 0);
        SubstituteDesk back = chained("teacher 9 0 1;teacher 9 1;teacher 9 0;teacher 9 0;teacher 9 2;", 2);
        back.reopen(1);
        back.setAbsent(1, 0, true);
        chainIs("by teacher 0, whom a later one replaces", back, 1, 0, 2);
        back.setAbsent(2, 0, true);
        chainIs("by the next one", back, 1, 0, 3);
        back.setAbsent(3, 0, true);
        chainIs("nobody is left", back, 1);
        SubstituteDesk none = chained("teacher 9 0;teacher 9 1;teacher 9 1 2;", 2);
        none.setAbsent(1, 0, true);
        chainIs("a free one", none, 1, 2);
    }

    private static void chainAvoids() {
        SubstituteDesk desk = chained("teacher 9 0;teacher 9 1 0;teacher 0 1;teacher 9 1;teacher 9 0 1;", 2);
        desk.setAbsent(0, 0, true);
        desk.setAbsent(4, 0, true);
        chainIs("not one whose load is its most", desk, 0, 1, 3);
        desk.setAbsent(3, 0, true);
        chainIs("not one who is absent", desk, 0);
        desk.setAbsent(4, 0, false);
        chainIs("one is shorter than two", desk, 0, 4);
    }

    private static void partners() {
        SubstituteDesk desk = Check.school(SCHOOL);
        Check.same("partners of 0", desk.partners(0), 2);
        Check.same("firstPartner of 0", desk.firstPartner(0), 2);
        Check.same("partners of 1", desk.partners(1), 1);
        Check.same("firstPartner of 1", desk.firstPartner(1), 4);
        Check.same("firstPartner of 3", desk.firstPartner(3), 0);
        desk.setAbsent(2, 1, true);
        Check.same("partners of 3", desk.partners(3), 1);
        desk.reopen(0);
        Check.same("partners of an open one", desk.partners(0), 0);
        Check.refused("firstPartner of 3", NoSuchElementException.class, () -> desk.firstPartner(3));
    }

    private static void slots() {
        SubstituteDesk desk = Check.school(SCHOOL);
        Check.same("slots of 4", desk.slotsFor(4), 0b101100);
        Check.same("slots of 2", desk.slotsFor(2), 0b100100);
        SubstituteDesk wide = Check.school("grid 5 6; subject 0; teacher 0 0; room 0; classes 1; lesson 3 0 0 0 0;");
        Check.same("all but one of thirty", wide.slotsFor(0), (1 << 30) - 1 - 8);
    }

    private static void wrongNumbers() {
        SubstituteDesk desk = Check.school(SCHOOL);
        for (int bad : new int[] {-1, 6, 5, Integer.MIN_VALUE, Integer.MAX_VALUE}) {
            Check.refused("candidates", IndexOutOfBoundsException.class, () -> desk.candidates(bad));
            Check.refused("chain", IndexOutOfBoundsException.class, () -> desk.chain(bad));
            Check.refused("chainTeacher", IndexOutOfBoundsException.class, () -> desk.chainTeacher(bad, -1));
            Check.refused("partners", IndexOutOfBoundsException.class, () -> desk.partners(bad));
            Check.refused("firstPartner", IndexOutOfBoundsException.class, () -> desk.firstPartner(bad));
            Check.refused("slotsFor", IndexOutOfBoundsException.class, () -> desk.slotsFor(bad));
            Check.refused("whyNotCover", IndexOutOfBoundsException.class, () -> desk.whyNotCover(bad, 0));
            Check.refused("whyNotCover", IndexOutOfBoundsException.class, () -> desk.whyNotCover(0, bad));
            Check.refused("whyNotSupervise", IndexOutOfBoundsException.class, () -> desk.whyNotSupervise(bad, 0));
            Check.refused("whyNotSupervise", IndexOutOfBoundsException.class, () -> desk.whyNotSupervise(0, bad));
            Check.refused("whyNotExchange", IndexOutOfBoundsException.class, () -> desk.whyNotExchange(bad, 0));
            Check.refused("whyNotExchange", IndexOutOfBoundsException.class, () -> desk.whyNotExchange(0, bad));
            Check.refused("whyNotMove", IndexOutOfBoundsException.class, () -> desk.whyNotMove(bad, 0));
            Check.refused("whyNotRoom", IndexOutOfBoundsException.class, () -> desk.whyNotRoom(bad, 0));
            Check.refused("whyNotRoom", IndexOutOfBoundsException.class, () -> desk.whyNotRoom(0, bad));
        }
        Check.refused("whyNotMove", IndexOutOfBoundsException.class, () -> desk.whyNotMove(0, 6));
        Check.refused("whyNotMove", IndexOutOfBoundsException.class, () -> desk.whyNotMove(0, -1));
        Check.refused("whyNotRoom", IndexOutOfBoundsException.class, () -> desk.whyNotRoom(0, 3));
        Check.refused("whyNotCover", IndexOutOfBoundsException.class, () -> desk.whyNotCover(0, 4));
    }
}
