import java.lang.reflect.Constructor;
import java.lang.reflect.Field;
import java.lang.reflect.Method;
import java.lang.reflect.Modifier;
import java.util.ArrayList;
import java.util.List;

/** The class shows what the document's face says, and nothing else. */
public final class FaceTest {
    private static final String INDEX = "IndexOutOfBoundsException";
    private static final String ILLEGAL = "IllegalArgumentException";
    private static final String FULL = "UnsupportedOperationException";
    private static final String ANOTHER = "NoSuchElementException";

    private static final List<String> FACE = List.of(
            "int feed(int,int,int,int,int)", "boolean end(int)",
            "int town() " + ILLEGAL + " " + FULL, "int lease() " + ILLEGAL + " " + FULL, "int fault()",
            "int look(int,int) " + INDEX + " " + ANOTHER, "int angle(int) " + INDEX, "int stop()",
            "int rope(int,int) " + INDEX + " " + ILLEGAL, "boolean lit(int,int,int) " + INDEX,
            "int light(int,int,int) " + INDEX + " " + ILLEGAL, "int bright(int,int) " + INDEX,
            "int houses(int,int) " + INDEX + " " + ANOTHER, "int rent(int,int,int) " + INDEX,
            "int let(int,int,int,int) " + INDEX + " " + ILLEGAL + " " + FULL, "int due(int) " + INDEX,
            "int promise(int,int,int) " + INDEX + " " + ILLEGAL + " " + FULL, "int broken(int) " + INDEX, "int twice()",
            "int level(int,int) " + INDEX, "int drain(int,int) " + INDEX + " " + ILLEGAL + " " + FULL,
            "boolean runs(int,int) " + INDEX, "int uphill(int,boolean) " + INDEX, "int pool(int,int) " + INDEX,
            "int name(int,int,boolean) " + INDEX, "int walk(int,int) " + INDEX + " " + ILLEGAL,
            "int build(int,int) " + INDEX + " " + ILLEGAL, "int undo()",
            "int lost(int,int,int,int,int) " + INDEX + " " + ILLEGAL,
            "int takes(int,int,int,int) " + INDEX + " " + ILLEGAL,
            "int gable(int,int,int,int) " + INDEX + " " + ILLEGAL,
            "void wants(int,int,int) " + INDEX + " " + ILLEGAL, "int good(int,int) " + INDEX,
            "int swaps(int,int) " + INDEX + " " + ANOTHER, "int move()", "int left()",
            "int paper(int,int,boolean) " + INDEX + " " + FULL, "int years(int) " + ILLEGAL,
            "int push(int,int,int) " + INDEX, "int blow(int)", "void image()", "boolean back()", "int count(int)");

    public static void main(String[] args) {
        List<String> shown = new ArrayList<>();
        List<String> shownNames = new ArrayList<>();
        for (Method method : PlateTown.class.getDeclaredMethods()) {
            if (Modifier.isPublic(method.getModifiers())) {
                shown.add(told(method));
                shownNames.add(method.getName());
            } else {
                Due.is(method + " is private", true, Modifier.isPrivate(method.getModifiers()));
            }
        }
        for (String told : FACE) {
            Due.is("the class has " + told, true, shown.contains(told));
        }
        Due.is("methods of the face", 43, shown.size());
        fields();
        namesOfItsOwn(shownNames);
        Constructor<?>[] constructors = PlateTown.class.getDeclaredConstructors();
        Due.is("one constructor", 1, constructors.length);
        Due.is("it is public", true, Modifier.isPublic(constructors[0].getModifiers()));
        Due.is("it takes nothing", 0, constructors[0].getParameterCount());
        Due.is("the class is public and final", true, Modifier.isPublic(PlateTown.class.getModifiers())
                && Modifier.isFinal(PlateTown.class.getModifiers()));
        Due.close();
    }

    private static String told(Method method) {
        List<String> kinds = new ArrayList<>();
        for (Class<?> kind : method.getParameterTypes()) {
            kinds.add(kind.getSimpleName());
        }
        StringBuilder told = new StringBuilder(method.getReturnType().getSimpleName());
        told.append(' ').append(method.getName()).append('(').append(String.join(",", kinds)).append(')');
        for (Class<?> thrown : method.getExceptionTypes()) {
            told.append(' ').append(thrown.getSimpleName());
        }
        return told.toString();
    }

    private static void fields() {
        for (Field field : PlateTown.class.getDeclaredFields()) {
            boolean isFace = field.getName().equals("NONE");
            Due.is(field + " is shown", isFace, !Modifier.isPrivate(field.getModifiers()));
            Due.is(field + " is no static state", true,
                    !Modifier.isStatic(field.getModifiers()) || Modifier.isFinal(field.getModifiers()));
        }
    }

    private static void namesOfItsOwn(List<String> shownNames) {
        for (Class<?> inner : PlateTown.class.getDeclaredClasses()) {
            Due.is(inner + " is static", true, Modifier.isStatic(inner.getModifiers()));
            Due.is(inner + " is private", true, Modifier.isPrivate(inner.getModifiers()));
            for (Method method : inner.getDeclaredMethods()) {
                Due.is(method + " has a name of its own", false, shownNames.contains(method.getName()));
            }
        }
    }
}
