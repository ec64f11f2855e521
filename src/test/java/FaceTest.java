import java.lang.reflect.Constructor;
import java.lang.reflect.Field;
import java.lang.reflect.Method;
import java.lang.reflect.Modifier;
import java.util.Arrays;
import java.util.Set;
import java.util.TreeSet;

/** The class shows the document's face and nothing else (LANGUAGE.md, rule 1). */
public final class FaceTest {
    private static final String[] FACE = {
        "int bath(int)", "int child(int,int)", "int comes(int,int)", "int feels(int,int,int)",
        "int minute(int,int)", "int change(int,int)", "int rest(int)", "int ready()",
        "int alone(int,int)", "int neverHeld(int)", "int mostSteps(int,int)", "int byTurns(int,int)",
        "int allSwim()", "int beside(int)", "int helps()", "int costs(int)", "int bands(int,int,int)",
        "long frights(int,int,int,int,int)", "int was(int,int,int,int)", "int dare(int,int)",
        "int group(int,int)", "int forget()", "int coldest(int,int)", "int last()", "long mean(int)",
        "int forged(int)", "int judge(int,int)", "int weeks(int,int,int)", "int image()",
        "int restore()", "int count(int)", "int keep(int,int,int,int)", "int row(int,int,int)",
        "int put(int,int,int)", "long element(int,int)", "int copy(int,int,int,int,int)",
        "int cost(int)", "int toss(int)",
    };

    public static void main(String[] args) {
        Check check = new Check("face");
        Class<?> face = HandUnderTheChin.class;
        check.due("public and final",
            Modifier.isPublic(face.getModifiers()) && Modifier.isFinal(face.getModifiers()) ? 1 : 0, 1);
        Set<String> shown = new TreeSet<>();
        Set<String> names = new TreeSet<>();
        Set<String> hidden = new TreeSet<>();
        for (Method m : face.getDeclaredMethods()) {
            if (Modifier.isPrivate(m.getModifiers())) {
                hidden.add(m.getName());
            } else {
                names.add(m.getName());
                shown.add(signature(m));
            }
        }
        check.same("methods", shown.toString(), new TreeSet<>(Arrays.asList(FACE)).toString());
        hidden.retainAll(names);
        check.same("private methods with a public name", hidden.toString(), "[]");
        for (Field f : face.getDeclaredFields()) {
            check.due("private field " + f.getName(), Modifier.isPrivate(f.getModifiers()) ? 1 : 0, 1);
            if (Modifier.isStatic(f.getModifiers())) {
                check.due("final field " + f.getName(), Modifier.isFinal(f.getModifiers()) ? 1 : 0, 1);
            }
        }
        Constructor<?>[] made = face.getDeclaredConstructors();
        check.due("constructors", made.length, 1);
        check.due("public constructor", Modifier.isPublic(made[0].getModifiers()) ? 1 : 0, 1);
        check.due("parameters of it", made[0].getParameterCount(), 0);
        for (Class<?> inside : face.getDeclaredClasses()) {
            int how = inside.getModifiers();
            check.due("static class inside " + inside.getName(), Modifier.isStatic(how) ? 1 : 0, 1);
            check.due("hidden class inside " + inside.getName(),
                Modifier.isPublic(how) || Modifier.isProtected(how) ? 0 : 1, 1);
        }
        check.end();
    }

    private static String signature(Method m) {
        StringBuilder text = new StringBuilder(m.getReturnType().getName()).append(' ').append(m.getName()).append('(');
        for (int i = 0; i < m.getParameterCount(); i++) {
            text.append(i == 0 ? "" : ",").append(m.getParameterTypes()[i].getName());
        }
        return text.append(')').toString();
    }
}
