import java.lang.reflect.Constructor;
import java.lang.reflect.Field;
import java.lang.reflect.Method;
import java.lang.reflect.Modifier;
import java.util.Arrays;
import java.util.TreeSet;

/** The class has the document's public face, and shows nothing else (LANGUAGE.md, rule 1). */
public final class FaceTest {
    private static final String[] FACE = {
        "int addFlight() throws IllegalStateException",
        "int giveChute(int, int) throws IndexOutOfBoundsException, IllegalStateException",
        "int setReader(int) throws IllegalArgumentException",
        "int setRoom(int, int) throws IndexOutOfBoundsException, IllegalArgumentException",
        "int checkIn(int, int, int) throws IndexOutOfBoundsException, IllegalArgumentException, IllegalStateException",
        "int carry(int) throws IndexOutOfBoundsException, IllegalStateException",
        "int forward(int, int) throws IndexOutOfBoundsException, IllegalStateException",
        "int sweep(int) throws IndexOutOfBoundsException",
        "int depart(int) throws IndexOutOfBoundsException, IllegalStateException",
        "int pass(int) throws IllegalArgumentException",
        "int flightOf(int) throws IndexOutOfBoundsException",
        "int whereIs(int) throws IndexOutOfBoundsException",
        "int placeOf(int) throws IndexOutOfBoundsException",
        "int chuteOf(int) throws IndexOutOfBoundsException",
        "int readFor(int) throws IndexOutOfBoundsException",
        "int missesOf(int) throws IndexOutOfBoundsException",
        "boolean isMisrouted(int) throws IndexOutOfBoundsException",
        "boolean hasOpenFile(int) throws IndexOutOfBoundsException",
        "int bagAt(int) throws IndexOutOfBoundsException",
        "int bagsIn(int) throws IndexOutOfBoundsException",
        "int misroutedIn(int) throws IndexOutOfBoundsException",
        "int roomOf(int) throws IndexOutOfBoundsException",
        "int chuteOfFlight(int) throws IndexOutOfBoundsException",
        "boolean isGone(int) throws IndexOutOfBoundsException",
        "int readyOf(int) throws IndexOutOfBoundsException",
        "int missingOf(int) throws IndexOutOfBoundsException",
        "int minute()",
        "int flights()",
        "int bags()",
        "int inLine()",
        "int onBelt()",
        "int atDesk()",
        "int openFiles()",
        "int closedFiles()",
        "int reader()",
        "int minutesUntilChute(int) throws IndexOutOfBoundsException",
        "int readyAfter(int, int) throws IndexOutOfBoundsException, IllegalArgumentException",
        "int bestChute(int, int) throws IndexOutOfBoundsException, IllegalArgumentException, IllegalStateException",
        "double meanMisses()",
        "long digest()",
    };

    public static void main(String[] args) {
        Check.due("the class's modifiers", Modifier.toString(BagCarousel.class.getModifiers()), "public final");
        methods();
        constructors();
        fields();
        classesInside();
        Check.finish();
    }

    private static void methods() {
        TreeSet<String> shown = new TreeSet<>();
        TreeSet<String> publicNames = new TreeSet<>();
        TreeSet<String> privateNames = new TreeSet<>();
        for (Method method : BagCarousel.class.getDeclaredMethods()) {
            if (Modifier.isPrivate(method.getModifiers())) {
                privateNames.add(method.getName());
            } else {
                shown.add(describe(method));
                publicNames.add(method.getName());
            }
        }
        Check.due("the methods shown", shown, new TreeSet<>(Arrays.asList(FACE)));
        privateNames.retainAll(publicNames);
        Check.due("private methods with a public one's name", privateNames, new TreeSet<String>());
    }

    private static String describe(Method method) {
        StringBuilder text = new StringBuilder();
        int modifiers = method.getModifiers();
        if (modifiers != Modifier.PUBLIC) {
            text.append(Modifier.toString(modifiers)).append(' ');
        }
        text.append(method.getReturnType().getSimpleName()).append(' ').append(method.getName());
        text.append('(').append(names(method.getParameterTypes())).append(')');
        if (method.getExceptionTypes().length > 0) {
            text.append(" throws ").append(names(method.getExceptionTypes()));
        }
        return text.toString();
    }

    private static String names(Class<?>[] types) {
        StringBuilder text = new StringBuilder();
        for (Class<?> type : types) {
            if (text.length() > 0) {
                text.append(", ");
            }
            text.append(type.getSimpleName());
        }
        return text.toString();
    }

    private static void constructors() {
        Constructor<?>[] all = BagCarousel.class.getDeclaredConstructors();
        Check.due("how many constructors", all.length, 1);
        Check.due("the constructor", all[0].toString(), "public BagCarousel()");
    }

    private static void fields() {
        for (Field field : BagCarousel.class.getDeclaredFields()) {
            int modifiers = field.getModifiers();
            Check.due(field + " is private", Modifier.isPrivate(modifiers), true);
            if (Modifier.isStatic(modifiers)) {
                Check.due(field + " is final", Modifier.isFinal(modifiers), true);
            }
        }
    }

    private static void classesInside() {
        for (Class<?> inside : BagCarousel.class.getDeclaredClasses()) {
            int modifiers = inside.getModifiers();
            boolean hidden = !Modifier.isPublic(modifiers) && !Modifier.isProtected(modifiers);
            Check.due(inside + " is hidden", hidden, true);
            Check.due(inside + " is static", Modifier.isStatic(modifiers), true);
        }
    }
}
