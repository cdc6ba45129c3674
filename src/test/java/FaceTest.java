import java.lang.reflect.Constructor;
import java.lang.reflect.Field;
import java.lang.reflect.Method;
import java.lang.reflect.Modifier;
import java.util.Arrays;
import java.util.HashSet;
import java.util.Set;
import java.util.TreeSet;

/** The public face: its constants, its constructor, its methods with their throws clauses, and no other member. */
public final class FaceTest {
    private static final String[] FACE = {
        "RowTriggers()",
        "int addRule(int,int,int) IllegalArgumentException IllegalStateException",
        "int setAction(int,int,int,int,int) IndexOutOfBoundsException IllegalArgumentException",
        "boolean turnMute(int) IndexOutOfBoundsException",
        "int dropRule(int) IndexOutOfBoundsException",
        "int setDepth(int) IllegalArgumentException",
        "int insert(int,int,int,int) IndexOutOfBoundsException IllegalArgumentException IllegalStateException",
        "int update(int,int,int) IndexOutOfBoundsException IllegalArgumentException IllegalStateException",
        "int remove(int) IndexOutOfBoundsException IllegalStateException",
        "int whyNotUpdate(int,int,int) IndexOutOfBoundsException IllegalArgumentException",
        "int eventsOfUpdate(int,int,int) IndexOutOfBoundsException IllegalArgumentException",
        "int depthOfUpdate(int,int,int) IndexOutOfBoundsException IllegalArgumentException",
        "boolean hasRow(int) IndexOutOfBoundsException",
        "int rowCount()",
        "int valueAt(int,int) IndexOutOfBoundsException IllegalStateException",
        "int sumOf(int) IndexOutOfBoundsException",
        "int ruleCount()",
        "int actionOf(int) IndexOutOfBoundsException",
        "boolean isMuted(int) IndexOutOfBoundsException",
        "int actsOf(int) IndexOutOfBoundsException",
        "int eventCount()",
        "int logSize()",
        "int loggedRule(int) IndexOutOfBoundsException",
        "int loggedDepth(int) IndexOutOfBoundsException",
        "boolean canSetOff(int,int) IndexOutOfBoundsException",
        "int reachOf(int) IndexOutOfBoundsException",
        "int reachByTable(int) IndexOutOfBoundsException",
        "int circularRules()",
        "int appendText(long) IllegalArgumentException IllegalStateException",
        "int clearText()",
        "int textLength()",
        "int textError()",
        "int runText() IllegalStateException",
        "int undo() IllegalStateException",
        "int undoCount()",
        "int saveState(int) IndexOutOfBoundsException",
        "int loadState(int) IndexOutOfBoundsException IllegalStateException",
    };

    public static void main(String[] args) {
        constants();
        Set<String> publicNames = publicCalls();
        hiddenMembers(publicNames);
        Check.end();
    }

    private static void constants() {
        Check.due("NONE", () -> RowTriggers.NONE, -1);
        Check.due("INSERT", () -> RowTriggers.INSERT, 0);
        Check.due("UPDATE", () -> RowTriggers.UPDATE, 1);
        Check.due("DELETE", () -> RowTriggers.DELETE, 2);
        Check.due("NOTHING", () -> RowTriggers.NOTHING, 0);
        Check.due("REFUSE", () -> RowTriggers.REFUSE, 1);
        Check.due("ADD", () -> RowTriggers.ADD, 2);
        Check.due("TAKE", () -> RowTriggers.TAKE, 3);
    }

    private static Set<String> publicCalls() {
        Set<String> found = new TreeSet<>();
        Set<String> names = new HashSet<>();
        for (Constructor<?> made : RowTriggers.class.getDeclaredConstructors()) {
            found.add("RowTriggers" + list(made.getParameterTypes(), ",", "(", ")") + list(made.getExceptionTypes(), " ", " ", ""));
        }
        for (Method method : RowTriggers.class.getDeclaredMethods()) {
            if (!Modifier.isPrivate(method.getModifiers())) {
                names.add(method.getName());
                found.add(method.getReturnType().getSimpleName() + " " + method.getName()
                        + list(method.getParameterTypes(), ",", "(", ")") + list(method.getExceptionTypes(), " ", " ", ""));
            }
        }
        Check.same("the face", found.toString(), new TreeSet<>(Arrays.asList(FACE)).toString());
        return names;
    }

    private static String list(Class<?>[] types, String between, String first, String last) {
        StringBuilder s = new StringBuilder(first);
        for (int i = 0; i < types.length; i++) {
            s.append(i == 0 ? "" : between).append(types[i].getSimpleName());
        }
        return types.length == 0 && last.isEmpty() ? "" : s.append(last).toString();
    }

    private static void hiddenMembers(Set<String> publicNames) {
        Check.due("final", Modifier.isFinal(RowTriggers.class.getModifiers()), true);
        int constants = 0;
        for (Field field : RowTriggers.class.getDeclaredFields()) {
            if (Modifier.isPublic(field.getModifiers())) {
                constants++;
                Check.due(field + " is constant", field.toString().startsWith("public static final int "), true);
            } else {
                Check.due(field + " is private", Modifier.isPrivate(field.getModifiers()), true);
            }
        }
        int counted = constants;
        Check.due("how many constants", () -> counted, 8);
        for (Method method : RowTriggers.class.getDeclaredMethods()) {
            if (Modifier.isPrivate(method.getModifiers())) {
                Check.due(method + " has no name of the face", publicNames.contains(method.getName()), false);
            }
        }
        for (Class<?> inner : RowTriggers.class.getDeclaredClasses()) {
            Check.due(inner + " is hidden", Modifier.isPublic(inner.getModifiers()), false);
            Check.due(inner + " is static", Modifier.isStatic(inner.getModifiers()), true);
        }
    }
}
