import java.lang.reflect.Constructor;
import java.lang.reflect.Field;
import java.lang.reflect.Member;
import java.lang.reflect.Method;
import java.lang.reflect.Modifier;
import java.util.Arrays;
import java.util.HashSet;
import java.util.Set;
import java.util.TreeSet;

/** The public face of the class is that of the document, and no more of it can be reached. */
public final class FaceTest {
    private static final String[] FACE = {
        "CreditScroll()", "set(int,int)", "name(int,int)", "line(int)", "cue(int,int)", "move(int,int)", "drop(int)",
        "turn(int,int)", "read()", "of(int,int)", "group(int,int)", "at(int,int)", "count(int)", "blame(int)",
        "speedFor(int)", "seenIf(int,int)", "bestCue(int,int,int)", "put(long)", "wipe()", "fault()", "undo()",
        "save(int)", "restore(int)", "NO_SUCH", "BAD_VALUE", "BAD_TEXT", "TOO_MANY", "NOT_POSSIBLE", "NONE", "SCREEN",
        "SPEED", "LOGO", "NAME", "TITLE", "PICTURE", "BLANK"};

    public static void main(String[] args) {
        Set<String> found = new TreeSet<>();
        Set<String> names = new HashSet<>();
        Set<String> hidden = new HashSet<>();
        for (Constructor<?> made : CreditScroll.class.getDeclaredConstructors()) {
            note(made, "CreditScroll" + types(made.getParameterTypes()), found);
        }
        for (Method method : CreditScroll.class.getDeclaredMethods()) {
            note(method, method.getName() + types(method.getParameterTypes()), found);
            (Modifier.isPublic(method.getModifiers()) ? names : hidden).add(method.getName());
            Due.is("returns int: " + method.getName(), method.getReturnType() == int.class
                || Modifier.isPrivate(method.getModifiers()) ? 1 : 0, 1);
        }
        for (Field field : CreditScroll.class.getDeclaredFields()) {
            note(field, field.getName(), found);
            boolean settled = Modifier.isFinal(field.getModifiers()) || !Modifier.isStatic(field.getModifiers());
            Due.is("final if it is static: " + field.getName(), settled ? 1 : 0, 1);
        }
        for (Class<?> inside : CreditScroll.class.getDeclaredClasses()) {
            Due.is("static: " + inside.getName(), Modifier.isStatic(inside.getModifiers()) ? 1 : 0, 1);
            Due.is("not public: " + inside.getName(), Modifier.isPublic(inside.getModifiers()) ? 1 : 0, 0);
            for (Method method : inside.getDeclaredMethods()) {
                hidden.add(method.getName());
            }
        }
        Set<String> due = new TreeSet<>(Arrays.asList(FACE));
        Due.is("the face " + found, found.equals(due) ? 1 : 0, 1);
        hidden.retainAll(names);
        Due.is("hidden methods with a public name " + hidden, hidden.size(), 0);
        Due.is("final class", Modifier.isFinal(CreditScroll.class.getModifiers()) ? 1 : 0, 1);
        constants();
        Due.end("FaceTest");
    }

    private static void note(Member member, String text, Set<String> found) {
        if (!Modifier.isPrivate(member.getModifiers())) {
            found.add(text);
            Due.is("public: " + text, Modifier.isPublic(member.getModifiers()) ? 1 : 0, 1);
        }
    }

    private static String types(Class<?>[] types) {
        StringBuilder text = new StringBuilder("(");
        for (Class<?> type : types) {
            text.append(text.length() == 1 ? "" : ",").append(type.getSimpleName());
        }
        return text.append(")").toString();
    }

    private static void constants() {
        Due.is("NO_SUCH", CreditScroll.NO_SUCH, -1);
        Due.is("BAD_VALUE", CreditScroll.BAD_VALUE, -2);
        Due.is("BAD_TEXT", CreditScroll.BAD_TEXT, -3);
        Due.is("TOO_MANY", CreditScroll.TOO_MANY, -4);
        Due.is("NOT_POSSIBLE", CreditScroll.NOT_POSSIBLE, -5);
        Due.is("NONE", CreditScroll.NONE, -6);
        Due.is("SCREEN", CreditScroll.SCREEN, 0);
        Due.is("SPEED", CreditScroll.SPEED, 1);
        Due.is("LOGO", CreditScroll.LOGO, 2);
        Due.is("NAME", CreditScroll.NAME, 0);
        Due.is("TITLE", CreditScroll.TITLE, 1);
        Due.is("PICTURE", CreditScroll.PICTURE, 2);
        Due.is("BLANK", CreditScroll.BLANK, 3);
    }
}
