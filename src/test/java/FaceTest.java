import java.lang.reflect.Constructor;
import java.lang.reflect.Field;
import java.lang.reflect.Member;
import java.lang.reflect.Method;
import java.lang.reflect.Modifier;
import java.util.ArrayList;
import java.util.Arrays;
import java.util.Collections;
import java.util.List;
import java.util.NoSuchElementException;

/** The public face of the document, and no other member that is not private. */
public final class FaceTest {
    private static final String[] METHODS = {
        "int feed(int,int,int,int,int)", "int model(int)", "int fault()", "int where()", "int parts(int)",
        "int asks(int)", "boolean input(int,int)", "int tell(int)", "int door()",
        "boolean guard(int,int,int,int)", "boolean crown(int,int)", "boolean rival(int,int,int)",
        "boolean leave(int)", "boolean back(int)", "int champion(int,int)", "int about(int,int)",
        "int pass(int)", "int ask(int,int)", "int kept(int,int)", "int answer(int,int)", "int again(int,int)",
        "boolean truth(int,int)", "int side(int)", "int sides(int)", "boolean expect(int,int,int,int)",
        "int drift(int,int)", "int seen(int,int,int)", "int gave(int,int,int)", "int differs(int,int)",
        "int differing(int)", "int count(int)", "int trouble()",
    };

    public static void main(String[] args) {
        Check.same("NONE", ModelShelf.NONE, -1);
        Check.same("NO_ANSWER", ModelShelf.NO_ANSWER, Integer.MIN_VALUE);
        Check.yes("the class is public and final",
            Modifier.isPublic(ModelShelf.class.getModifiers()) && Modifier.isFinal(ModelShelf.class.getModifiers()));
        List<String> open = new ArrayList<>();
        List<String> hidden = new ArrayList<>();
        for (Method method : ModelShelf.class.getDeclaredMethods()) {
            if (Modifier.isPrivate(method.getModifiers())) {
                hidden.add(method.getName());
            } else {
                open.add(written(method));
            }
        }
        List<String> due = new ArrayList<>(Arrays.asList(METHODS));
        Collections.sort(due);
        Collections.sort(open);
        Check.yes("the open methods are those of the face: " + open, open.equals(due));
        for (String face : METHODS) {
            String name = face.substring(face.indexOf(' ') + 1, face.indexOf('('));
            Check.no("a private method bears the name " + name, hidden.contains(name));
        }
        onlyDifferingThrows();
        fieldsAndConstructors();
        classesInside();
        Check.end();
    }

    private static void onlyDifferingThrows() {
        for (Method method : ModelShelf.class.getDeclaredMethods()) {
            List<Class<?>> due =
                method.getName().equals("differing") ? List.of(NoSuchElementException.class) : List.of();
            Check.yes("what " + method.getName() + " says it throws", List.of(method.getExceptionTypes()).equals(due));
        }
    }

    private static void classesInside() {
        for (Class<?> inside : ModelShelf.class.getDeclaredClasses()) {
            Check.yes(inside + " is static", Modifier.isStatic(inside.getModifiers()));
            fewFields(inside);
        }
        fewFields(ModelShelf.class);
    }

    private static void fewFields(Class<?> one) {
        int fields = 0;
        for (Field field : one.getDeclaredFields()) {
            boolean constant = Modifier.isStatic(field.getModifiers());
            Check.yes(field + ": what is static is final", !constant || Modifier.isFinal(field.getModifiers()));
            fields += constant ? 0 : 1;
        }
        Check.yes(one + " has some twenty fields at most", fields <= 20);
    }

    private static void fieldsAndConstructors() {
        for (Field field : ModelShelf.class.getDeclaredFields()) {
            boolean constant = field.getName().equals("NONE") || field.getName().equals("NO_ANSWER");
            Check.same(field.getName() + " is open", isPrivate(field) ? 0 : 1, constant ? 1 : 0);
        }
        Constructor<?>[] constructors = ModelShelf.class.getDeclaredConstructors();
        Check.same("constructors", constructors.length, 1);
        Check.same("its parameters", constructors[0].getParameterCount(), 0);
        Check.yes("it is public", Modifier.isPublic(constructors[0].getModifiers()));
    }

    private static boolean isPrivate(Member member) {
        return Modifier.isPrivate(member.getModifiers());
    }

    private static String written(Method method) {
        StringBuilder text = new StringBuilder();
        text.append(method.getReturnType().getName()).append(' ').append(method.getName()).append('(');
        for (int i = 0; i < method.getParameterCount(); i++) {
            text.append(i == 0 ? "" : ",").append(method.getParameterTypes()[i].getName());
        }
        return text.append(')').toString();
    }
}
