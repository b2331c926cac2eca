import java.lang.reflect.InvocationTargetException;
import java.lang.reflect.Method;
import java.lang.reflect.Modifier;
import java.util.List;
import java.util.Set;
import java.util.concurrent.Callable;

/** Counts the answers that are not the ones that are due, and tells them. */
final class Check {
    private static final Set<String> CHANGING = Set.of("setAbsent", "cover", "supervise", "repair", "repairAll",
            "exchange", "move", "setRoom", "reopen", "reset", "runScript", "undo", "parseSchool", "appendText",
            "truncateText", "writeReport", "reportByte");

    private static int wrong = 0;

    private Check() {
    }

    static void same(String call, Object got, Object due) {
        if (!due.equals(got)) {
            wrong++;
            System.out.println(call + " answered " + got + ", due is " + due);
        }
    }

    /** The call throws exactly this class of exception, and not one below it that the machine throws. */
    static void refused(String call, Class<?> due, Callable<?> action) {
        String got;
        try {
            got = "" + action.call();
        } catch (Exception e) {
            got = e.getClass().getName();
        }
        same(call, got, due.getName());
    }

    /** A call that is asked with one number. */
    interface Asking {
        Object of(int number);
    }

    /** Things are numbered from 0: there is the first and the last one, and none on either side. */
    static void numbered(String call, int many, Asking asking) {
        for (int bad : new int[] {-1, many, Integer.MIN_VALUE, Integer.MAX_VALUE}) {
            refused(call + " " + bad, IndexOutOfBoundsException.class, () -> asking.of(bad));
        }
        for (int good : new int[] {0, many - 1}) {
            same(call + " " + good + " is there", isThere(good, asking), true);
        }
    }

    private static boolean isThere(int number, Asking asking) {
        try {
            asking.of(number);
        } catch (IndexOutOfBoundsException e) {
            return false;
        } catch (IllegalStateException | java.util.NoSuchElementException e) {
            return true;
        }
        return true;
    }

    /** The property is asked by a number from 0: an argument beside the least or the greatest one is refused. */
    static void properties(String call, int many, Asking asking) {
        for (int bad : new int[] {-1, many, Integer.MIN_VALUE, Integer.MAX_VALUE}) {
            refused(call + " " + bad, IllegalArgumentException.class, () -> asking.of(bad));
        }
        for (int good = 0; good < many; good++) {
            asking.of(good);
        }
    }

    static void isTrue(String what, boolean holds) {
        same(what, holds, true);
    }

    static void end() {
        if (wrong > 0) {
            System.out.println(wrong + " answers are not as due");
            System.exit(1);
        }
    }

    /** Puts a text into the buffer, which is empty before. */
    static void load(SubstituteDesk desk, String text) {
        StringBuilder padded = new StringBuilder(text);
        while (padded.length() % 20 != 0) {
            padded.append('#');
        }
        for (int i = 0; i < padded.length(); i += 20) {
            desk.appendText(four(padded, i), four(padded, i + 4), four(padded, i + 8), four(padded, i + 12),
                    four(padded, i + 16));
        }
        desk.truncateText(text.length());
    }

    static int four(CharSequence text, int at) {
        return text.charAt(at) << 24 | text.charAt(at + 1) << 16 | text.charAt(at + 2) << 8 | text.charAt(at + 3);
    }

    static int parse(SubstituteDesk desk, String text) {
        load(desk, text);
        return desk.parseSchool();
    }

    static int script(SubstituteDesk desk, String text) {
        load(desk, text);
        return desk.runScript();
    }

    /** A desk with the school of the text, which is correct. */
    static SubstituteDesk school(String text) {
        SubstituteDesk desk = new SubstituteDesk();
        int lessons = parse(desk, text);
        isTrue("the school is correct: " + text + " (" + desk.errorCode() + " at " + desk.errorPosition() + ")",
                lessons >= 0);
        return desk;
    }

    static String report(SubstituteDesk desk, int group) {
        int length = desk.writeReport(group);
        StringBuilder text = new StringBuilder();
        for (int i = 0; i < length; i++) {
            text.append((char) desk.reportByte(i));
        }
        return text.toString();
    }

    /** What each call that changes nothing answers, with numbers in and beside all ranges. */
    static String everything(SubstituteDesk desk) {
        StringBuilder text = new StringBuilder();
        int greatest = Math.max(desk.count(0) * desk.count(1), Math.max(desk.count(6), 10)) + 1;
        for (Method method : SubstituteDesk.class.getDeclaredMethods()) {
            if (!Modifier.isPublic(method.getModifiers()) || CHANGING.contains(method.getName())) {
                continue;
            }
            int parameters = method.getParameterCount();
            for (int a = -1; a <= (parameters > 0 ? greatest : -1); a++) {
                for (int b = -1; b <= (parameters > 1 ? greatest : -1); b++) {
                    Object[] numbers = parameters == 0 ? new Object[0]
                            : parameters == 1 ? new Object[] {a} : new Object[] {a, b};
                    text.append(method.getName()).append(List.of(numbers)).append(answer(desk, method, numbers));
                }
            }
        }
        for (int group = 0; group < desk.count(5); group++) {
            text.append(report(desk, group));
        }
        return text.toString();
    }

    private static String answer(SubstituteDesk desk, Method method, Object[] numbers) {
        try {
            return "" + method.invoke(desk, numbers);
        } catch (InvocationTargetException e) {
            isTrue(method + " throws what its throws clause names, not " + e.getCause(),
                    Set.of(method.getExceptionTypes()).contains(e.getCause().getClass()));
            return e.getCause().getClass().getName();
        } catch (IllegalAccessException e) {
            throw new IllegalStateException(e);
        }
    }

    /** All that can be asked about the state, to see that it stays or comes back. */
    static String state(SubstituteDesk desk) {
        StringBuilder text = new StringBuilder();
        for (int i = 0; i < desk.count(6); i++) {
            for (int what = 0; what <= 9; what++) {
                text.append(desk.lesson(i, what)).append(' ');
            }
        }
        for (int k = 0; k < desk.count(3); k++) {
            for (int what = 0; what <= 6; what++) {
                text.append(desk.teacher(k, what)).append(' ');
            }
        }
        for (int what = 0; what <= 9; what++) {
            text.append(desk.count(what)).append(' ');
        }
        return text.toString();
    }
}
