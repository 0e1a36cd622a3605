import java.lang.reflect.Constructor;
import java.lang.reflect.Field;
import java.lang.reflect.Method;
import java.lang.reflect.Modifier;
import java.nio.file.Files;
import java.nio.file.Path;
import java.util.Set;
import java.util.TreeSet;
import java.util.regex.Matcher;
import java.util.regex.Pattern;

/** The face of the document, and those rules of LANGUAGE.md that a test can see. */
public final class RulesTest {
    private static final Check CHECK = new Check();
    private static final String FACE = "count(int) end(int) feed(int,int,int,int,int,int,int,int) line(int,int) load() "
            + "out(int) peek(int) restore(int) run(int) save(int) squeezed(int,int) start() state() text(int,int) "
            + "word(int,boolean)";
    private static final String[] FORBIDDEN = {
        "\\bimport\\b", "\\bpackage\\b", "\\bthrow\\b", "\\bthrows\\b", "\\btry\\b", "\\bcatch\\b", "\\bfinally\\b",
        "\\bsynchronized\\b", "\\bassert\\b", "->", "::", "\\bprotected\\b", "\\bSystem\\.(?!arraycopy)", "Exact\\(",
        "\\bvolatile\\b", "\\bnew Random\\b", "\\bstatic \\{"
    };

    public static void main(String[] args) throws Exception {
        face();
        for (Class<?> inner : TaleMachine.class.getDeclaredClasses()) {
            CHECK.due(inner + " is static", Modifier.isStatic(inner.getModifiers()) ? 1 : 0, 1);
            CHECK.due(inner + " is not public", inner.getModifiers() & (Modifier.PUBLIC | Modifier.PROTECTED), 0);
            members(inner);
        }
        members(TaleMachine.class);
        CHECK.due("twelve classes at most", TaleMachine.class.getDeclaredClasses().length <= 11 ? 1 : 0, 1);
        source(Files.readString(Path.of("src/main/java/TaleMachine.java")));
        CHECK.finish();
    }

    private static String signature(Method method) {
        StringBuilder text = new StringBuilder(method.getName()).append('(');
        String comma = "";
        for (Class<?> type : method.getParameterTypes()) {
            text.append(comma).append(type.getName());
            comma = ",";
        }
        return text.append(')').toString();
    }

    private static void face() {
        Set<String> open = new TreeSet<>();
        Set<String> names = new TreeSet<>();
        for (Method method : TaleMachine.class.getDeclaredMethods()) {
            if (Modifier.isPublic(method.getModifiers())) {
                open.add(signature(method));
                names.add(method.getName());
            }
        }
        CHECK.due("the methods of the face", String.join(" ", open).equals(FACE) ? 1 : 0, 1);
        CHECK.due("final", Modifier.isFinal(TaleMachine.class.getModifiers()) ? 1 : 0, 1);
        Constructor<?>[] makers = TaleMachine.class.getDeclaredConstructors();
        CHECK.due("one constructor", makers.length, 1);
        CHECK.due("without parameters", makers[0].getParameterCount(), 0);
        for (Method method : TaleMachine.class.getDeclaredMethods()) {
            int how = method.getModifiers();
            if (!Modifier.isPublic(how)) {
                CHECK.due(method + " is private", Modifier.isPrivate(how) ? 1 : 0, 1);
                CHECK.due(method + " bears a name of its own", names.contains(method.getName()) ? 1 : 0, 0);
            }
        }
        for (Field field : TaleMachine.class.getDeclaredFields()) {
            boolean constant = Set.of("BAD", "STATE", "FULL", "NONE").contains(field.getName());
            CHECK.due(field + " is as the face has it", constant == Modifier.isPublic(field.getModifiers()) ? 1 : 0, 1);
            CHECK.due(field + " is private or public",
                    field.getModifiers() & (Modifier.PUBLIC | Modifier.PRIVATE), constant ? 1 : 2);
        }
    }

    private static void members(Class<?> type) {
        int own = 0;
        for (Field field : type.getDeclaredFields()) {
            int how = field.getModifiers();
            if (Modifier.isStatic(how)) {
                CHECK.due(field + " is final", Modifier.isFinal(how) ? 1 : 0, 1);
            } else {
                own++;
            }
        }
        CHECK.due(type + ": twenty fields at most", own <= 20 ? 1 : 0, 1);
        for (Method method : type.getDeclaredMethods()) {
            boolean few = method.getParameterCount() <= 7 || method.getName().equals("feed");
            CHECK.due(method + ": seven parameters at most", few ? 1 : 0, 1);
        }
    }

    private static void source(String text) {
        String code = text.replaceAll("(?s)/\\*.*?\\*/", "").replaceAll("//[^\n]*", "")
                .replaceAll("\"(\\\\.|[^\"\\\\])*\"", "TEXT");
        for (String pattern : FORBIDDEN) {
            Matcher found = Pattern.compile(pattern).matcher(code);
            CHECK.due("in the source: " + pattern, found.find() ? 1 : 0, 0);
        }
    }
}
