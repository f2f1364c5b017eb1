import java.io.IOException;
import java.lang.reflect.Constructor;
import java.lang.reflect.Field;
import java.lang.reflect.Method;
import java.lang.reflect.Modifier;
import java.nio.file.Files;
import java.nio.file.Path;
import java.util.Arrays;
import java.util.List;
import java.util.Set;
import java.util.TreeSet;
import java.util.regex.Pattern;

/** The public face, and the rules of LANGUAGE.md that can be looked for in the source. */
public final class FaceTest {
    private static final List<String> METHODS = List.of("int note(int,int)", "int drop()", "int at(int,int)",
            "int range(int,int,int)", "int bits(int,int)", "int bound(int,int)", "long melodies()", "int melody(long)",
            "long place()", "int bars(int,int)", "int some(int,boolean)", "long rhythms()", "int rhythm(long)",
            "int mask(int)", "int clear()", "int voice(int,int)", "long chords()", "int chord(long,int,int)",
            "int meant()", "int judge()", "int act(int,int)", "int learn(int)", "int table(int,int,int)",
            "int drill(int)", "int count(int)");
    private static final Check check = new Check();

    public static void main(String[] args) throws IOException {
        constants();
        members();
        classesInside();
        source();
        check.finish();
    }

    private static void constants() {
        check.due("NONE", EarSchool.NONE, -1);
        check.due("BAD", EarSchool.BAD, -2);
        check.due("NOT", EarSchool.NOT, -3);
        check.due("FULL", EarSchool.FULL, -4);
    }

    private static String face(Method method) {
        String arguments = String.join(",", Arrays.stream(method.getParameterTypes()).map(Class::getName).toList());
        return method.getReturnType().getName() + " " + method.getName() + "(" + arguments + ")";
    }

    private static void members() {
        Set<String> open = new TreeSet<>();
        for (Method method : EarSchool.class.getDeclaredMethods()) {
            if (!Modifier.isPrivate(method.getModifiers())) {
                check.isTrue("public and not static: " + method,
                        Modifier.isPublic(method.getModifiers()) && !Modifier.isStatic(method.getModifiers()));
                open.add(face(method));
            }
        }
        check.isTrue("just the methods of the document: " + open, open.equals(new TreeSet<>(METHODS)));
        Set<String> fields = new TreeSet<>();
        for (Field field : EarSchool.class.getDeclaredFields()) {
            if (!Modifier.isPrivate(field.getModifiers())) {
                fields.add(field.getName());
            }
        }
        check.isTrue("just the constants of the document: " + fields,
                fields.equals(Set.of("NONE", "BAD", "NOT", "FULL")));
        Constructor<?>[] constructors = EarSchool.class.getDeclaredConstructors();
        check.due("constructors", constructors.length, 1);
        check.isTrue("the constructor is public", Modifier.isPublic(constructors[0].getModifiers()));
        check.isTrue("the class is final", Modifier.isFinal(EarSchool.class.getModifiers()));
    }

    private static void classesInside() {
        Set<String> names = new TreeSet<>();
        for (String method : METHODS) {
            names.add(method.substring(method.indexOf(' ') + 1, method.indexOf('(')));
        }
        Class<?>[] inside = EarSchool.class.getDeclaredClasses();
        check.isTrue("at most twelve classes", inside.length < 12);
        for (Class<?> one : inside) {
            check.isTrue("static: " + one, Modifier.isStatic(one.getModifiers()));
            check.isTrue("not public: " + one, !Modifier.isPublic(one.getModifiers()));
            for (Method method : one.getDeclaredMethods()) {
                check.isTrue("no public name: " + method, !names.contains(method.getName()));
                check.isTrue("at most seven parameters: " + method, method.getParameterCount() <= 7);
            }
            for (Field field : one.getDeclaredFields()) {
                check.isTrue("static fields are final: " + field,
                        !Modifier.isStatic(field.getModifiers()) || Modifier.isFinal(field.getModifiers()));
            }
        }
    }

    private static void source() throws IOException {
        String text = Files.readString(Path.of("src/main/java/EarSchool.java"))
                .replaceAll("(?s)/\\*.*?\\*/", "").replaceAll("//.*", "");
        String[] forbidden = {"\\bthrow\\b", "\\btry\\b", "\\bcatch\\b", "\\bsynchronized\\b", "\\bassert\\b", "->",
            "::", "\\bimport\\b", "\\bpackage\\b", "@", "Exact\\b", "\\bObject\\b", "\\bSystem\\b", "\\bRandom\\b"};
        for (String one : forbidden) {
            check.isTrue("not in the source: " + one, !Pattern.compile(one).matcher(text).find());
        }
    }
}
