import java.lang.reflect.InvocationTargetException;
import java.lang.reflect.Method;
import java.lang.reflect.Modifier;
import java.util.ArrayList;
import java.util.HashMap;
import java.util.List;
import java.util.Map;
import java.util.TreeMap;

/** Runs of calls, made by numbers that are the same each time, on the desk and on the model: all answers are alike. */
public final class RandomRunsTest {
    private static final int RUNS = 1500;
    private static final int CALLS = 160;

    private static final Map<String, Method> ofDesk = new TreeMap<>();
    private static final Map<String, Method> ofModel = new HashMap<>();
    private static final Map<String, Integer> seen = new TreeMap<>();
    private static final String[] CHANGES = {"setAbsent", "setAbsent", "cover", "cover", "cover", "supervise", "supervise",
        "supervise", "repair", "repair", "repair", "exchange", "exchange", "exchange", "move", "move", "move",
        "setRoom", "setRoom", "reopen", "reopen", "reopen", "undo", "undo", "openOne", "openOne", "fill", "fill", "seldom", "watchMany"};

    /** l lesson, t teacher, d day, s slot, r room, c class, u subject, k kind, f flag, w a small number. */
    private static final Map<String, String> MEANINGS = new HashMap<>();

    static {
        String[] all = {"setAbsent tdf", "cover lt", "supervise lt", "repair l", "exchange ll", "move ls", "setRoom lr",
            "reopen l", "whyNotCover lt", "whyNotSupervise lt", "whyNotExchange ll", "whyNotMove ls", "whyNotRoom lr",
            "candidates l", "chain l", "chainTeacher lw", "partners l", "firstPartner l", "slotsFor l", "count w",
            "lesson lw", "teacher tw", "room rw", "subject uw", "lessonOfClass sc", "lessonOfTeacher st",
            "lessonInRoom sr", "freeTeachers s", "freeRooms sk", "openLesson w", "difference w", "windows td",
            "classWindows cd", "writeReport c"};
        for (String line : all) {
            String[] parts = line.split(" ");
            MEANINGS.put(parts[0], parts[1]);
        }
    }

    private static long seed;
    private static int wrong;

    private SubstituteDesk desk;
    private Model model;
    private final List<String> told = new ArrayList<>();

    public static void main(String[] args) {
        gather(SubstituteDesk.class, ofDesk);
        gather(Model.class, ofModel);
        Check.same("the model's face", new TreeMap<>(ofModel).keySet(), ofDesk.keySet());
        int runs = args.length > 0 ? Integer.parseInt(args[0]) : RUNS;
        for (int run = 0; run < runs && wrong == 0; run++) {
            seed = run * 7919L + 17;
            new RandomRunsTest().go();
        }
        if (args.length > 1) {
            System.out.println(seen);
        }
        Check.isTrue("all answers are alike", wrong == 0);
        Check.end();
    }

    private static void gather(Class<?> from, Map<String, Method> into) {
        for (Method method : from.getDeclaredMethods()) {
            if (Modifier.isPublic(method.getModifiers())) {
                into.put(method.getName(), method);
            }
        }
    }

    private static int below(int bound) {
        seed = seed * 6364136223846793005L + 1442695040888963407L;
        return (int) ((seed >>> 33) % bound);
    }

    private void go() {
        desk = new SubstituteDesk();
        model = new Model();
        if (below(10) > 0) {
            text(below(4) == 0 ? ringSchool() : randomSchool(), "parseSchool");
        }
        for (int i = 0; i < CALLS && wrong == 0; i++) {
            int kind = below(100);
            if (kind < 60) {
                change(CHANGES[below(CHANGES.length)]);
            } else if (kind < 62) {
                text(below(2) == 0 ? spoilt(randomSchool()) : below(3) > 0 ? randomSchool() : ringSchool(), "parseSchool");
            } else if (kind < 72) {
                text(below(3) > 0 ? randomScript() : spoilt(randomScript()), "runScript");
            } else {
                List<String> names = new ArrayList<>(ofDesk.keySet());
                arbitrary(names.get(below(names.size())));
            }
            if (i % 16 == 0) {
                wholeState();
            }
        }
        wholeState();
    }

    private void change(String name) {
        if (name.equals("openOne") || name.equals("fill")) {
            toOpenLesson(name);
        } else if (name.equals("watchMany")) {
            if (below(4) == 0) {
                watchMany();
            } else if (below(3) == 0) {
                chainEach();
            }
        } else if (name.equals("seldom")) {
            int kind = below(8);
            arbitrary(kind == 0 ? "reset" : kind < 4 ? "repairAll" : "undo");
        } else {
            arbitrary(name);
        }
    }

    /** What can only be done to an open lesson would seldom meet one by chance. */
    private void toOpenLesson(String name) {
        if (model.count(7) == 0 || name.equals("openOne")) {
            arbitrary("reopen");
            return;
        }
        int lesson = model.openLesson(below(model.count(7)));
        String[] calls = {"supervise", "cover", "whyNotSupervise", "whyNotCover"};
        both(calls[below(4)], lesson, below(model.count(3)));
    }

    /** One teacher for several open lessons, so that the duties of a day come to an end. */
    private void watchMany() {
        int teacher = below(model.count(3));
        for (int i = 0; i < 12; i++) {
            arbitrary("reopen");
        }
        for (int i = 0; i < model.count(6); i++) {
            both("whyNotSupervise", i, teacher);
            both("supervise", i, teacher);
        }
    }

    /** The lessons of one teacher after another open at once, and one of them repaired. */
    private void chainEach() {
        for (int k = 0; k < model.count(3); k++) {
            both("setAbsent", k, below(model.count(0)), true);
            for (int i = 0; i < model.count(7); i++) {
                int lesson = model.openLesson(i);
                both("chain", lesson);
                for (int place = 0; place < 4; place++) {
                    both("chainTeacher", lesson, place);
                }
            }
            if (model.count(7) > 0) {
                both("repair", model.openLesson(below(model.count(7))));
            }
            if (below(3) > 0) {
                both("undo");
                both("undo");
            }
        }
    }

    /** A call with numbers that are mostly there, seldom just outside, and very seldom far off. */
    private void arbitrary(String name) {
        String meanings = MEANINGS.getOrDefault(name, "");
        Object[] arguments = new Object[ofDesk.get(name).getParameterCount()];
        for (int k = 0; k < arguments.length; k++) {
            arguments[k] = k < meanings.length() ? meant(meanings.charAt(k)) : number();
        }
        both(name, arguments);
    }

    private Object meant(char meaning) {
        if (meaning == 'f') {
            return below(4) > 0;
        }
        if (below(25) == 0) {
            return number();
        }
        int bound = switch (meaning) {
            case 'l' -> model.count(6);
            case 't' -> model.count(3);
            case 'd' -> model.count(0);
            case 's' -> model.count(0) * model.count(1);
            case 'r' -> model.count(4);
            case 'c' -> model.count(5);
            case 'u' -> model.count(2);
            case 'k' -> 4;
            default -> 10;
        };
        return below(Math.max(bound, 1));
    }

    private static int number() {
        int kind = below(60);
        if (kind == 0) {
            return Integer.MIN_VALUE;
        }
        if (kind == 1) {
            return Integer.MAX_VALUE;
        }
        return kind < 4 ? below(1000) - 500 : kind < 25 ? below(44) - 2 : below(8) - (kind < 28 ? 1 : 0);
    }

    private void text(String text, String reader) {
        both("truncateText", 0);
        StringBuilder padded = new StringBuilder(text);
        while (padded.length() % 20 != 0) {
            padded.append((char) below(256));
        }
        for (int i = 0; i < padded.length(); i += 20) {
            both("appendText", Check.four(padded, i), Check.four(padded, i + 4), Check.four(padded, i + 8),
                    Check.four(padded, i + 12), Check.four(padded, i + 16));
        }
        both("truncateText", Math.min(text.length(), 900));
        told.add("text " + text.replace('\n', '_'));
        both(reader);
        both("errorCode");
        both("errorPosition");
    }

    private void both(String name, Object... arguments) {
        String got = answer(ofDesk.get(name), desk, arguments);
        String due = answer(ofModel.get(name), model, arguments);
        told.add(name + List.of(arguments) + " = " + got);
        seen.merge(name + (due.startsWith("java") ? " " + due : name.startsWith("whyNot") || name.equals("chain")
                || name.equals("errorCode") || name.equals("repair") ? " " + due : ""), 1, Integer::sum);
        if (!got.equals(due)) {
            wrong++;
            told.forEach(System.out::println);
            System.out.println("due is " + due);
        }
    }

    private static String answer(Method method, Object target, Object[] arguments) {
        try {
            return "" + method.invoke(target, arguments);
        } catch (InvocationTargetException e) {
            return e.getCause().getClass().getName();
        } catch (IllegalAccessException e) {
            return "no access";
        }
    }

    private void wholeState() {
        for (int i = 0; i < model.count(6); i++) {
            for (int what = 0; what <= 9; what++) {
                both("lesson", i, what);
            }
            both("candidates", i);
            both("chain", i);
            for (int k = 0; k < 4; k++) {
                both("chainTeacher", i, k);
            }
            both("partners", i);
            both("slotsFor", i);
        }
        for (int k = 0; k < model.count(3); k++) {
            for (int what = 0; what <= 6; what++) {
                both("teacher", k, what);
            }
            for (int day = 0; day < model.count(0); day++) {
                both("windows", k, day);
            }
        }
        for (int what = 0; what <= 9; what++) {
            both("count", what);
        }
        both("spread");
        both("taughtShare");
        both("undoDepth");
        int group = below(model.count(5));
        both("writeReport", group);
        int length = model.writeReport(group);
        for (int i = 0; i <= length; i++) {
            both("reportByte", i);
        }
    }

    // ---- texts

    private static String blank() {
        return below(8) == 0 ? "\n" : below(12) == 0 ? "  " : " ";
    }

    private static String end() {
        return (below(10) == 0 ? " ;" : ";") + (below(5) == 0 ? "\n" : below(3) == 0 ? "" : " ");
    }

    /** A school in which a teacher can do little else than what the next one does, so that chains are long. */
    private static String ringSchool() {
        int slots = 1 + below(2);
        StringBuilder text = new StringBuilder("grid 1 " + slots + ";");
        int[] order = {0, 1, 2, 3, 4, 5};
        for (int k = 5; k > 0; k--) {
            int other = below(k + 1);
            int number = order[k];
            order[k] = order[other];
            order[other] = number;
        }
        text.append("subject 0;".repeat(6));
        for (int t = 0; t < 8; t++) {
            int own = t < 6 ? t : below(6);
            int before = (own + 5) % 6;
            text.append("teacher ").append(t < 6 ? below(2) : 1 + below(2)).append(' ').append(order[own]);
            text.append(below(5) > 0 ? " " + order[before] : "").append(';');
        }
        text.append("room 0;".repeat(6)).append("classes 6;");
        for (int o = 0; o < slots; o++) {
            int teachers = 3 + below(4);
            for (int t = 0; t < teachers; t++) {
                text.append("lesson ").append(o).append(' ').append(t).append(' ').append(order[t]).append(' ').append(t)
                        .append(' ').append(5 - t).append(';');
            }
        }
        return text.toString();
    }

    /** A school text that is mostly correct, or has a lesson or a statement too many. */
    private static String randomSchool() {
        boolean isTight = below(2) == 0;
        int days = 1 + below(isTight ? 2 : 5);
        int periods = 1 + below(isTight ? 3 : 6);
        int subjects = isTight ? 3 + below(4) : 1 + below(6);
        int kinds = below(3) == 0 ? 4 : 1;
        StringBuilder text = new StringBuilder("grid" + blank() + days + blank() + periods + end());
        int[] kind = statements(text, "subject", subjects + (below(150) == 0 ? 6 : 0), kinds);
        int teachers = isTight ? 5 + below(4) : 1 + below(8);
        int[] skills = new int[teachers];
        for (int t = 0; t < teachers; t++) {
            text.append("teacher").append(blank()).append(below(3) > 0 ? below(3) : below(10));
            int number = 1 + below(isTight ? 2 : subjects);
            while (Integer.bitCount(skills[t]) < number) {
                int s = below(subjects);
                text.append((skills[t] >> s & 1) == 0 ? blank() + s : "");
                skills[t] |= 1 << s;
            }
            text.append(end());
        }
        if (below(150) == 0) {
            text.append("teacher 1 0;".repeat(8));
        }
        int[] roomKind = statements(text, "room", (isTight ? 4 + below(3) : 1 + below(6)) + (below(150) == 0 ? 6 : 0),
                kinds);
        int classes = isTight ? 3 + below(4) : 1 + below(6);
        text.append("classes").append(blank()).append(classes).append(end());
        boolean[][] taken = new boolean[days * periods][30];
        int tries = isTight ? 600 : below(300);
        int most = below(20) == 0 ? 41 : 40;
        int lessons = 0;
        for (int i = 0; i < tries && lessons < most && text.length() < 878; i++) {
            int o = below(days * periods);
            int c = below(classes);
            int s = below(subjects);
            int t = below(teachers);
            int r = below(roomKind.length);
            boolean isGood = !taken[o][c] && !taken[o][6 + t] && !taken[o][14 + r] && (skills[t] >> s & 1) == 1
                    && kind[s] == roomKind[r];
            if (isGood || below(8000) == 0) {
                taken[o][c] = true;
                taken[o][6 + t] = true;
                taken[o][14 + r] = true;
                lessons++;
                text.append("lesson").append(blank()).append(o).append(' ').append(c).append(' ').append(s).append(' ')
                        .append(t).append(' ').append(r).append(end());
            }
        }
        return text.toString();
    }

    private static int[] statements(StringBuilder text, String word, int number, int kinds) {
        int[] kind = new int[number];
        for (int k = 0; k < number; k++) {
            kind[k] = below(kinds);
            text.append(word).append(blank()).append(kind[k]).append(end());
        }
        return kind;
    }

    /** A script of steps that the model mostly could take one by one. */
    private String randomScript() {
        String[] words = {"absent", "present", "cover", "watch", "swap", "move", "room", "repair", "open", "all"};
        StringBuilder text = new StringBuilder();
        int steps = below(5);
        for (int i = 0; i < steps; i++) {
            int which = below(words.length);
            int open = model.count(7);
            boolean isForOpen = which == 2 || which == 3 || which == 7;
            int lesson = isForOpen && open > 0 ? model.openLesson(below(open)) : below(Math.max(1, model.count(6)));
            int other = below(which < 4 ? model.count(3) : which == 5 ? 30 : which == 6 ? 6 : 40);
            text.append(words[which]);
            if (which < 9) {
                text.append(blank()).append(which < 2 ? below(model.count(3)) : lesson);
            }
            if (which < 7) {
                text.append(blank()).append(which < 2 ? below(model.count(0)) : other);
            }
            text.append(end());
        }
        return text.toString();
    }

    private static String spoilt(String text) {
        StringBuilder changed = new StringBuilder(text);
        String[] pieces = {";", " ", "0", "9", "7", "x", "99999", "lesson", "subject 0;", "teacher 1 0;", "room 0;",
            "classes 1;", "A", "\t", "" + (char) 200, "" + (char) 0, "12345", "0000", "all;", "open 0;"};
        int kind = below(5);
        int at = below(changed.length() + 1);
        if (kind == 0) {
            changed.setLength(at);
        } else if (kind == 1) {
            changed.delete(at, Math.min(changed.length(), at + 1 + below(3)));
        } else if (kind == 2 && at < changed.length()) {
            changed.setCharAt(at, pieces[below(pieces.length)].charAt(0));
        } else {
            changed.insert(at, pieces[below(pieces.length)]);
        }
        return changed.length() > 900 ? text : changed.toString();
    }
}
