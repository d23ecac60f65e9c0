import java.lang.reflect.Constructor;
import java.lang.reflect.Field;
import java.lang.reflect.Method;
import java.lang.reflect.Modifier;
import java.util.Set;
import java.util.TreeSet;

/** The public face, and rule 1 of LANGUAGE.md: nothing else can be seen from outside. */
final class FaceTest {
    private static final String[] METHODS = {
        "boolean clock(int,int,int)", "boolean link(int,int,int,int)", "boolean sensor(int,int)",
        "boolean fault(int,int,int)", "boolean code(int,int,int)", "int clear(int)",
        "boolean due(int,int,int)", "int run(int)", "int frame()", "int reading(int)",
        "int correction(int)", "int input(int,int)", "int charge(int,int)", "int word(int,int)",
        "int members(int)", "int bears(int)", "int accused(int)", "int spread()",
        "boolean alike()", "int solo(int)",
    };

    public static void main(String[] args) {
        Check check = new Check();
        check.yes("class is public", Modifier.isPublic(VotedFrames.class.getModifiers()));
        check.yes("class is final", Modifier.isFinal(VotedFrames.class.getModifiers()));
        constants(check);
        methods(check);
        constructors(check);
        classesInside(check);
        check.end();
    }

    private static void constants(Check check) {
        check.due("SHORT", VotedFrames.SHORT, -1000000001);
        check.due("DEEP", VotedFrames.DEEP, -1000000002);
        check.due("ZERO", VotedFrames.ZERO, -1000000003);
        int open = 0;
        for (Field field : VotedFrames.class.getDeclaredFields()) {
            if (!Modifier.isPrivate(field.getModifiers())) {
                open++;
            }
            if (Modifier.isStatic(field.getModifiers())) {
                check.yes(field.getName() + " is final", Modifier.isFinal(field.getModifiers()));
            }
        }
        check.due("fields that are not private", open, 3);
    }

    private static void methods(Check check) {
        Set<String> seen = new TreeSet<>();
        Set<String> names = new TreeSet<>();
        for (Method method : VotedFrames.class.getDeclaredMethods()) {
            if (!Modifier.isPrivate(method.getModifiers())) {
                check.yes(method + " is public", Modifier.isPublic(method.getModifiers()));
                seen.add(signature(method));
                names.add(method.getName());
            }
        }
        for (String wanted : METHODS) {
            check.yes("has " + wanted, seen.contains(wanted));
        }
        check.due("public methods", seen.size(), METHODS.length);
        for (Method method : VotedFrames.class.getDeclaredMethods()) {
            if (Modifier.isPrivate(method.getModifiers())) {
                check.no(method + " bears a public name", names.contains(method.getName()));
            }
        }
    }

    private static String signature(Method method) {
        StringBuilder text = new StringBuilder();
        text.append(method.getReturnType().getName()).append(' ').append(method.getName()).append('(');
        String gap = "";
        for (Class<?> type : method.getParameterTypes()) {
            text.append(gap).append(type.getName());
            gap = ",";
        }
        return text.append(')').toString();
    }

    private static void constructors(Check check) {
        Constructor<?>[] all = VotedFrames.class.getDeclaredConstructors();
        check.due("constructors", all.length, 1);
        check.yes("the constructor is public", Modifier.isPublic(all[0].getModifiers()));
        check.due("its parameters", all[0].getParameterCount(), 3);
    }

    private static void classesInside(Check check) {
        for (Class<?> inside : VotedFrames.class.getDeclaredClasses()) {
            check.yes(inside + " is static", Modifier.isStatic(inside.getModifiers()));
            check.no(inside + " is public", Modifier.isPublic(inside.getModifiers()));
            check.no(inside + " is protected", Modifier.isProtected(inside.getModifiers()));
        }
    }
}
