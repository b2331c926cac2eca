import java.lang.reflect.Constructor;
import java.lang.reflect.Field;
import java.lang.reflect.Member;
import java.lang.reflect.Method;
import java.lang.reflect.Modifier;
import java.util.HashSet;
import java.util.Set;
import java.util.TreeSet;

/** The face is the one of the document, and rules 1, 2, 5 and 11 of LANGUAGE.md hold. */
public final class FaceTest {
    private static final String[] FACE = {
        "int appendText(int,int,int,int,int)", "int truncateText(int)", "int parseSchool()", "int runScript()",
        "int errorCode()", "int errorPosition()", "int setAbsent(int,int,boolean)", "int cover(int,int)",
        "int supervise(int,int)", "int repair(int)", "int repairAll()", "int exchange(int,int)", "int move(int,int)",
        "int setRoom(int,int)", "int reopen(int)", "int reset()", "int whyNotCover(int,int)",
        "int whyNotSupervise(int,int)", "int whyNotExchange(int,int)", "int whyNotMove(int,int)",
        "int whyNotRoom(int,int)", "int candidates(int)", "int chain(int)", "int chainTeacher(int,int)",
        "int partners(int)", "int firstPartner(int)", "int slotsFor(int)", "int count(int)", "int lesson(int,int)",
        "int teacher(int,int)", "int room(int,int)", "int subject(int,int)", "int lessonOfClass(int,int)",
        "int lessonOfTeacher(int,int)", "int lessonInRoom(int,int)", "int freeTeachers(int)",
        "int freeRooms(int,int)", "int openLesson(int)", "int difference(int)", "int windows(int,int)",
        "int classWindows(int,int)", "int spread()", "double taughtShare()", "int writeReport(int)",
        "int reportByte(int)", "int undo()", "int undoDepth()",
    };

    private static final Set<String> faceNames = new HashSet<>();

    public static void main(String[] args) {
        faceHasJustTheMethods();
        otherMembersArePrivate();
        for (Class<?> inside : SubstituteDesk.class.getDeclaredClasses()) {
            insideIsInOrder(inside);
        }
        Check.isTrue("at most twelve classes", SubstituteDesk.class.getDeclaredClasses().length < 12);
        Check.end();
    }

    private static void faceHasJustTheMethods() {
        Set<String> due = new TreeSet<>(Set.of(FACE));
        Set<String> got = new TreeSet<>();
        for (Method method : SubstituteDesk.class.getDeclaredMethods()) {
            if (Modifier.isPublic(method.getModifiers())) {
                faceNames.add(method.getName());
                got.add(told(method));
                Check.isTrue(method + " is of the object", !Modifier.isStatic(method.getModifiers()));
            }
        }
        Check.same("the face", got, due);
        int modifiers = SubstituteDesk.class.getModifiers();
        Check.isTrue("the class is public and final", Modifier.isPublic(modifiers) && Modifier.isFinal(modifiers));
        Check.same("NONE", SubstituteDesk.NONE, -1);
    }

    private static String told(Method method) {
        StringBuilder text = new StringBuilder(method.getReturnType() + " " + method.getName() + "(");
        for (Class<?> type : method.getParameterTypes()) {
            text.append(text.charAt(text.length() - 1) == '(' ? "" : ",").append(type);
        }
        return text.append(')').toString();
    }

    private static void otherMembersArePrivate() {
        for (Method method : SubstituteDesk.class.getDeclaredMethods()) {
            if (!Modifier.isPublic(method.getModifiers())) {
                Check.isTrue(method + " is private", Modifier.isPrivate(method.getModifiers()));
                Check.isTrue(method + " has no name of the face", !faceNames.contains(method.getName()));
            }
        }
        for (Field field : SubstituteDesk.class.getDeclaredFields()) {
            Check.isTrue(field + " is private",
                    Modifier.isPrivate(field.getModifiers()) != field.getName().equals("NONE"));
        }
        Constructor<?>[] constructors = SubstituteDesk.class.getDeclaredConstructors();
        Check.isTrue("one public constructor", constructors.length == 1
                && Modifier.isPublic(constructors[0].getModifiers()) && constructors[0].getParameterCount() == 0);
    }

    private static void insideIsInOrder(Class<?> inside) {
        int modifiers = inside.getModifiers();
        Check.isTrue(inside + " is static", Modifier.isStatic(modifiers));
        Check.isTrue(inside + " is private", Modifier.isPrivate(modifiers));
        int fields = 0;
        for (Field field : inside.getDeclaredFields()) {
            if (Modifier.isStatic(field.getModifiers())) {
                Check.isTrue(field + " is a constant", Modifier.isFinal(field.getModifiers()));
            } else {
                fields++;
            }
        }
        Check.isTrue(inside + " has at most twenty fields", fields <= 20);
        for (Method method : inside.getDeclaredMethods()) {
            Check.isTrue(method + " has no name of the face", !faceNames.contains(method.getName()));
            Check.isTrue(method + " has at most seven parameters", method.getParameterCount() <= 7);
            notPublic(method);
        }
    }

    private static void notPublic(Member member) {
        int open = Modifier.PUBLIC | Modifier.PROTECTED;
        Check.isTrue(member + " is not public", (member.getModifiers() & open) == 0);
    }
}
