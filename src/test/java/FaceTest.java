import java.lang.reflect.Constructor;
import java.lang.reflect.Field;
import java.lang.reflect.Method;
import java.lang.reflect.Modifier;
import java.util.Set;
import java.util.TreeSet;

/** The public face: every name and type of the document, and no other. */
public final class FaceTest {
    private static final String[] FACE = {
        "int status()", "int start(int)", "int level(int)", "int many(int)", "int half(int,int)",
        "int corner(int,int,int)", "int leads(int)", "int locate(int,int,int,int)", "int ahead(int,int)",
        "long grown(int,int,int)", "int area(int)", "int nearer(int,int,int,int)", "int square(int,int,int)",
        "int drawn(int,int,int)", "int row(int)", "int pick(int)", "int putBy()", "int picked(int,int,int)",
        "int common(int,int)", "int steps(int,int)", "int around(int,int)", "int ribbon(int,int,int)",
        "int like(int,boolean)", "int legs(int)", "int border(int)", "int tenths(int,int)", "int figure(int,int)",
        "int atlas(int)", "int having(int)", "int comes(int,int)", "int lay(int,int,int,int,int,int,int)",
        "int borrow(int)", "int take(int)", "int clear()", "int rhomb(int,int)", "int spot(int,int,int)",
        "int pointOf(int,int)", "int taken(int)", "int gaps(int,int)", "int ways(int)", "int holes(int)",
        "int force(int)", "int meeting(int)", "int open()", "int feed(int,int,int,int,int)", "int load(int)",
        "int fault(int)", "int print()", "int out(int)", "int covered(int)"};

    public static void main(String[] args) {
        Check check = new Check();
        Class<?> face = RhombInflator.class;
        check.holds("the class is public and final",
            Modifier.isPublic(face.getModifiers()) && Modifier.isFinal(face.getModifiers()));
        check.holds("it has no package", face.getPackageName().isEmpty());
        checkMethods(check, face);
        checkRest(check, face);
        check.end("FaceTest");
    }

    private static void checkMethods(Check check, Class<?> face) {
        Set<String> wanted = new TreeSet<>(Set.of(FACE));
        Set<String> names = new TreeSet<>();
        for (Method method : face.getDeclaredMethods()) {
            String text = textOf(method);
            if (Modifier.isPublic(method.getModifiers())) {
                check.holds(text + " is of the face", wanted.remove(text));
                check.holds(text + " is an object's", !Modifier.isStatic(method.getModifiers()));
                names.add(method.getName());
            }
        }
        check.holds("no call is lacking: " + wanted, wanted.isEmpty());
        for (Method method : face.getDeclaredMethods()) {
            if (!Modifier.isPublic(method.getModifiers())) {
                check.holds(method + " is private", Modifier.isPrivate(method.getModifiers()));
                check.holds(method + " has a name of its own", !names.contains(method.getName()));
            }
        }
        for (Class<?> inside : face.getDeclaredClasses()) {
            for (Method method : inside.getDeclaredMethods()) {
                check.holds(method + " has a name of its own", !names.contains(method.getName()));
            }
        }
    }

    private static void checkRest(Check check, Class<?> face) {
        Constructor<?>[] makers = face.getDeclaredConstructors();
        check.due("constructors", makers.length, 1);
        check.holds("the constructor is public", Modifier.isPublic(makers[0].getModifiers()));
        check.due("its parameters", makers[0].getParameterCount(), 0);
        for (Field field : face.getDeclaredFields()) {
            if (!Modifier.isPrivate(field.getModifiers())) {
                check.holds(field + " is NONE", field.getName().equals("NONE") && field.getType() == int.class
                    && Modifier.isPublic(field.getModifiers()) && Modifier.isStatic(field.getModifiers())
                    && Modifier.isFinal(field.getModifiers()));
            }
        }
        check.due("NONE", RhombInflator.NONE, -1);
        for (Class<?> inside : face.getDeclaredClasses()) {
            check.holds(inside + " is static and not public",
                Modifier.isStatic(inside.getModifiers()) && !Modifier.isPublic(inside.getModifiers()));
        }
        check.holds("at most twelve classes", face.getDeclaredClasses().length <= 11);
    }

    private static String textOf(Method method) {
        StringBuilder text = new StringBuilder();
        text.append(method.getReturnType().getName()).append(' ').append(method.getName()).append('(');
        String between = "";
        for (Class<?> type : method.getParameterTypes()) {
            text.append(between).append(type.getName());
            between = ",";
        }
        return text.append(')').toString();
    }
}
