/** How a program uses the desk: a school, an absence, a repair, a script, undo, and what is refused. */
public final class Example {
    private static final int CHARACTERS_AT_ONCE = 20;
    private static final String SCHOOL = "grid 1 2; subject 0; subject 1; "
            + "teacher 2 0; teacher 1 0 1; teacher 3 1; room 0; room 1; classes 2; "
            + "lesson 0 0 0 0 0; lesson 0 1 1 1 1; lesson 1 0 1 2 1;";

    public static void main(String[] args) {
        SubstituteDesk desk = new SubstituteDesk();
        load(desk, SCHOOL);
        System.out.println("lessons: " + desk.parseSchool());

        System.out.println("open without teacher 0: " + desk.setAbsent(0, 0, true));
        System.out.println("teachers who repair it: " + desk.repair(0));
        System.out.print("class 0:\n" + report(desk, 0) + "class 1:\n" + report(desk, 1));

        load(desk, "open 2; watch 2 1;");
        System.out.println("steps: " + desk.runScript());
        System.out.print("class 0:\n" + report(desk, 0));
        System.out.println("undone, changes left: " + desk.undo());

        load(desk, "all; cover 3 0;");
        if (desk.runScript() == SubstituteDesk.NONE) {
            System.out.println("error " + desk.errorCode() + " at " + desk.errorPosition());
        }
        try {
            desk.cover(0, 0);
        } catch (IllegalStateException e) {
            System.out.println("refused, reason " + desk.whyNotCover(0, 0));
        }
    }

    /** Puts a text into the empty buffer, which takes twenty characters a call, and cuts off what is too much. */
    private static void load(SubstituteDesk desk, String text) {
        for (int i = 0; i < text.length(); i += CHARACTERS_AT_ONCE) {
            desk.appendText(four(text, i), four(text, i + 4), four(text, i + 8), four(text, i + 12),
                    four(text, i + 16));
        }
        desk.truncateText(text.length());
    }

    private static int four(String text, int from) {
        int packed = 0;
        for (int i = from; i < from + 4; i++) {
            packed = packed << 8 | (i < text.length() ? text.charAt(i) : ' ');
        }
        return packed;
    }

    private static String report(SubstituteDesk desk, int group) {
        StringBuilder text = new StringBuilder();
        int length = desk.writeReport(group);
        for (int i = 0; i < length; i++) {
            text.append((char) desk.reportByte(i));
        }
        return text.toString();
    }
}
