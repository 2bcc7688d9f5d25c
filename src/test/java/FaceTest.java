import java.lang.reflect.Constructor;
import java.lang.reflect.Field;
import java.lang.reflect.Method;
import java.lang.reflect.Modifier;
import java.nio.file.Files;
import java.nio.file.Path;
import java.util.Set;
import java.util.TreeSet;
import java.util.regex.Matcher;
import java.util.regex.Pattern;

/** The public face is the document's and no more; words that LANGUAGE.md rules out are not in the file. */
public final class FaceTest {
    private static final String[] METHODS = {
        "int type(int)", "int clear()", "int court()", "int leaf(int,int)", "int goer(int,int)",
        "int sister(int,int)", "int now(int)", "int comes(int)", "int says(int,int)", "int minutes(int)",
        "int undo()", "int fewest(int,int)", "int line(int)", "int sees(int,int,int)", "int forget()",
        "int had(int)", "int ask(int)", "int tale(int,int)", "int first(int,int)", "int when(int)",
        "int odds(int,int,int,int)", "int rate(int,int)", "int keep(int)", "int back(int)", "int count(int)",
        "long trace()"
    };
    private static final Pattern RULED_OUT = Pattern.compile(
        "\\b(throw|throws|try|catch|synchronized|assert|System\\.(?!arraycopy)\\w+|\\w+Exact|Thread|Random)\\b|->|::");

    public static void main(String[] args) throws Exception {
        Due d = new Due();
        constants(d);
        members(d);
        words(d);
        d.end();
    }

    private static void constants(Due d) {
        d.due("BAD", TruePies.BAD, -1);
        d.due("STATE", TruePies.STATE, -2);
        d.due("FULL", TruePies.FULL, -3);
        d.due("NONE", TruePies.NONE, -9);
        d.due("NO", TruePies.NO, -1000000);
    }

    private static void members(Due d) {
        int type = TruePies.class.getModifiers();
        d.due("the class is public and final", Modifier.isPublic(type) && Modifier.isFinal(type) ? 1 : 0, 1);
        Set<String> methods = new TreeSet<>();
        Set<String> publicNames = new TreeSet<>();
        Set<String> privateNames = new TreeSet<>();
        for (Method m : TruePies.class.getDeclaredMethods()) {
            if (Modifier.isPrivate(m.getModifiers())) {
                privateNames.add(m.getName());
            } else {
                publicNames.add(m.getName());
                methods.add(signature(m));
            }
        }
        Set<String> want = Set.of(METHODS);
        d.due("methods " + methods, methods.equals(want) ? 1 : 0, 1);
        privateNames.retainAll(publicNames);
        d.due("private methods named like public ones " + privateNames, privateNames.size(), 0);
        Set<String> fields = new TreeSet<>();
        for (Field f : TruePies.class.getDeclaredFields()) {
            if (!Modifier.isPrivate(f.getModifiers())) {
                fields.add(f.getName());
            }
        }
        d.due("fields " + fields, fields.equals(Set.of("BAD", "STATE", "FULL", "NONE", "NO")) ? 1 : 0, 1);
        Constructor<?>[] made = TruePies.class.getDeclaredConstructors();
        d.due("constructors", made.length == 1 && Modifier.isPublic(made[0].getModifiers()) ? 1 : 0, 1);
    }

    private static String signature(Method m) {
        StringBuilder s = new StringBuilder(m.getReturnType().getName()).append(' ').append(m.getName()).append('(');
        String between = "";
        for (Class<?> p : m.getParameterTypes()) {
            s.append(between).append(p.getName());
            between = ",";
        }
        return s.append(')').toString();
    }

    private static void words(Due d) throws Exception {
        String source = Files.readString(Path.of("src/main/java/TruePies.java"));
        String code = source.replaceAll("//[^\n]*", "").replaceAll("(?s)/\\*.*?\\*/", "");
        Matcher m = RULED_OUT.matcher(code);
        while (m.find()) {
            d.due("a word that is ruled out: " + m.group(), 1, 0);
        }
    }
}
