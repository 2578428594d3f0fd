import java.lang.reflect.Constructor;
import java.lang.reflect.Field;
import java.lang.reflect.Method;
import java.lang.reflect.Modifier;
import java.util.Set;
import java.util.TreeSet;

/** The face is the document's, to the letter, and nothing else of the class is seen from outside. */
public final class FaceTest {
    private static final String[] METHODS = {
        "int feed(int,int,int,int,int)", "int back(int)", "int read()", "int place()", "int lot(int,int,int)",
        "int key(int,int,int)", "boolean dead(int)", "int mask(int,int,int)", "int work(int,int,int)",
        "int plain(int,int,int)", "int anew(int,int,int)", "int sealed(int,int)", "int noise(int)", "int open(int)",
        "boolean budget(int)", "int opening(int,int,int)", "int works(int)", "int step(int,int,int)",
        "int outs(int,int)", "int cost(int,int)", "int holds(int,int,int)", "int best(int,int)",
        "boolean given(int,int)", "int run(int,int,int)", "int openly(int,int,int)", "int differ(int,int)",
        "int checks(int,int,int,int)", "boolean parts(int,int,int,int)", "int part(int,int)",
        "boolean spoil(int,int,int)", "int joined(int,int)", "int who(int)", "int even(int,int,int)", "int count(int)"};

    private static String written(Method method) {
        StringBuilder text = new StringBuilder(method.getReturnType() + " " + method.getName() + "(");
        for (Class<?> type : method.getParameterTypes()) {
            text.append(text.charAt(text.length() - 1) == '(' ? "" : ",").append(type);
        }
        return text.append(")").toString();
    }

    private static void mustBe(Due due, String what, boolean is) {
        due.is(what, is, true);
    }

    public static void main(String[] args) {
        Due due = new Due();
        due.topic("the face");
        Class<?> face = SealedSums.class;
        mustBe(due, "a public final class", face.getModifiers() == (Modifier.PUBLIC | Modifier.FINAL));
        Set<String> want = new TreeSet<>(Set.of(METHODS));
        Set<String> names = new TreeSet<>();
        for (Method method : face.getDeclaredMethods()) {
            if (Modifier.isPublic(method.getModifiers())) {
                names.add(method.getName());
                mustBe(due, written(method), want.remove(written(method)));
                mustBe(due, "not static: " + method.getName(), !Modifier.isStatic(method.getModifiers()));
            } else {
                mustBe(due, "private: " + method.getName(), Modifier.isPrivate(method.getModifiers()));
            }
        }
        mustBe(due, "no method is missing: " + want, want.isEmpty());
        for (Field field : face.getDeclaredFields()) {
            boolean constant = field.getName().equals("NONE");
            mustBe(due, "field " + field.getName(), constant == Modifier.isPublic(field.getModifiers()));
            mustBe(due, "field " + field.getName(), constant || Modifier.isPrivate(field.getModifiers()));
            mustBe(due, "static is final: " + field.getName(),
                !Modifier.isStatic(field.getModifiers()) || Modifier.isFinal(field.getModifiers()));
        }
        Constructor<?>[] made = face.getDeclaredConstructors();
        mustBe(due, "one constructor of an int",
            made.length == 1 && made[0].getParameterCount() == 1 && made[0].getParameterTypes()[0] == int.class);
        Class<?>[] inside = face.getDeclaredClasses();
        mustBe(due, "some twelve classes", inside.length + 1 <= 12);
        for (Class<?> own : inside) {
            mustBe(due, "static: " + own, Modifier.isStatic(own.getModifiers()));
            mustBe(due, "not public: " + own, !Modifier.isPublic(own.getModifiers()));
            mustBe(due, "not protected: " + own, !Modifier.isProtected(own.getModifiers()));
            for (Method method : own.getDeclaredMethods()) {
                mustBe(due, "a name of its own: " + method, !names.contains(method.getName()));
                mustBe(due, "seven parameters at most: " + method, method.getParameterCount() <= 7);
            }
        }
        due.end();
    }
}
