import java.io.IOException;
import java.lang.reflect.Constructor;
import java.lang.reflect.Field;
import java.lang.reflect.Member;
import java.lang.reflect.Method;
import java.lang.reflect.Modifier;
import java.nio.file.Files;
import java.nio.file.Path;
import java.util.HashSet;
import java.util.Set;
import java.util.TreeSet;
import java.util.regex.Matcher;
import java.util.regex.Pattern;

/** The face of the class is the document's and no more, and its text keeps to the plainer rules of LANGUAGE.md. */
public final class FaceTest {

    private static final String[] FACE = {
        "int setProcessors(int)", "int setWay(int,int,int)", "int setQuota(int,int)", "int setPeriod(int)",
        "int addTask(int,int,int)", "int addStep(int,int,int)", "int start(int)", "int setRank(int,int)",
        "int end(int)", "int signal(int)", "int tick(int)", "int clock()", "int tasks()", "int stateOf(int)",
        "int stepOf(int)", "int roundsOf(int)", "int keyOf(int)", "int lentKey(int)", "int standOf(int)",
        "int levelOf(int)", "int told(int,int)", "int processors()", "int on(int)", "int ran(int,int)",
        "int switches()", "int idle()", "int used(int)", "int holder(int)", "int blocked(int)", "int number(int)",
        "int awaiting(int)", "int stuck()", "double load()", "int doneIn(int,int)", "int doneWith(int,int,int)",
        "int idleIn(int)", "int stuckIn(int)", "long digest()"};

    private static final String[] FORBIDDEN = {"\\bimport\\b", "\\bpackage\\b", "->", "::", "\\btry\\b", "\\bcatch\\b",
        "\\bfinally\\b", "\\bsynchronized\\b", "\\bassert\\b", "\\bprotected\\b", "\\bnative\\b", "Exact\\(",
        "\\bstatic\\s*\\{", "\\bThread\\b", "\\bnanoTime\\b", "\\bcurrentTimeMillis\\b", "\\bRandom\\b",
        "\\bwhile\\s*\\(\\s*true", "\\bObject\\b", "\\bNaN\\b", "getMessage", "hashCode", "toString", "\\bMath\\."};

    private final Checks checks = new Checks("FaceTest");

    public static void main(String[] args) throws IOException {
        FaceTest test = new FaceTest();
        test.face();
        test.inside(BeadleKernel.class);
        test.text(Files.readString(Path.of("src/main/java/BeadleKernel.java")));
        test.checks.close();
    }

    private void face() {
        Class<?> face = BeadleKernel.class;
        checks.isTrue("the class is public and final",
                Modifier.isPublic(face.getModifiers()) && Modifier.isFinal(face.getModifiers()));
        Set<String> publicOnes = new TreeSet<>();
        Set<String> publicNames = new HashSet<>();
        for (Method method : face.getDeclaredMethods()) {
            if (Modifier.isPublic(method.getModifiers())) {
                publicOnes.add(told(method));
                publicNames.add(method.getName());
            }
        }
        for (Method method : face.getDeclaredMethods()) {
            boolean hidden = Modifier.isPrivate(method.getModifiers());
            checks.isTrue(method + " is public or private", hidden || Modifier.isPublic(method.getModifiers()));
            checks.isTrue(method + " bears a public name", !hidden || !publicNames.contains(method.getName()));
        }
        checks.same("the public methods", publicOnes.toString(), new TreeSet<>(Set.of(FACE)).toString());
        checks.same("constructors", face.getDeclaredConstructors().length, 1);
        Constructor<?> constructor = face.getDeclaredConstructors()[0];
        checks.isTrue("its constructor", Modifier.isPublic(constructor.getModifiers())
                && constructor.getParameterCount() == 0);
        for (Field field : face.getDeclaredFields()) {
            checks.isTrue(field + " is private", Modifier.isPrivate(field.getModifiers()));
        }
    }

    private static String told(Method method) {
        StringBuilder text = new StringBuilder(method.getReturnType() + " " + method.getName() + "(");
        for (int i = 0; i < method.getParameterCount(); i++) {
            text.append(i == 0 ? "" : ",").append(method.getParameterTypes()[i]);
        }
        return text.append(")").toString();
    }

    private void inside(Class<?> face) {
        checks.isTrue("some twelve classes", face.getDeclaredClasses().length <= 11);
        for (Class<?> inner : face.getDeclaredClasses()) {
            checks.isTrue(inner + " is private", Modifier.isPrivate(inner.getModifiers()));
            checks.isTrue(inner + " is static", Modifier.isStatic(inner.getModifiers()));
            fields(inner);
        }
        fields(face);
    }

    private void fields(Class<?> owner) {
        int kept = 0;
        for (Field field : owner.getDeclaredFields()) {
            if (isStatic(field)) {
                checks.isTrue(field + " is final", Modifier.isFinal(field.getModifiers()));
            } else {
                kept++;
            }
        }
        checks.isTrue(owner + " has some twenty fields, not " + kept, kept <= 20);
        for (Method method : owner.getDeclaredMethods()) {
            checks.isTrue(method + " has at most seven parameters", method.getParameterCount() <= 7);
        }
    }

    private static boolean isStatic(Member member) {
        return Modifier.isStatic(member.getModifiers());
    }

    private void text(String source) {
        String code = source.replaceAll("/\\*(?s:.*?)\\*/", "").replaceAll("//[^\n]*", "");
        for (String forbidden : FORBIDDEN) {
            Matcher matcher = Pattern.compile(forbidden).matcher(code);
            checks.isTrue("the text has " + forbidden, !matcher.find());
        }
        checks.isTrue("texts are not joined", !code.contains("\" +") && !code.contains("+ \""));
        int lines = 0;
        for (String line : source.split("\n")) {
            boolean begins = line.matches(" {4}( {4})?\\S.*\\) ?(throws [A-Za-z, ]+)?\\{");
            lines = begins ? 0 : lines + 1;
            checks.isTrue("a method is long at: " + line, lines <= 60 || !line.matches(" {8}( {4})?}"));
        }
    }
}
