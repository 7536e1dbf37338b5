import java.io.IOException;
import java.lang.reflect.Constructor;
import java.lang.reflect.Field;
import java.lang.reflect.Method;
import java.lang.reflect.Modifier;
import java.nio.file.Files;
import java.nio.file.Path;
import java.util.Arrays;
import java.util.List;
import java.util.Set;
import java.util.TreeSet;
import java.util.regex.Matcher;
import java.util.regex.Pattern;

/** The face of the document, and those rules of LANGUAGE.md that can be seen from outside. */
public final class LanguageTest {
    private static final String FACE = "long row(int,int,int) long set(int,int,int) long copy(int,int,int,int,int) "
        + "long drop(int) long feed(long,int) long pavement() int fault() long walk(int,int,int) long goes(int,int) "
        + "long seller(int,int) long watch(int,int) long raid(int,int,int) long two(int,int,int,int) "
        + "long after(int,int) long nothing(int) long keep() long feared(int,int) long score(int,int) long may(int) "
        + "long newcomer(int) long rest() long settle() long rests(int) long saved(int,int) "
        + "long pays(int,int,int,int) long stored(int) long escapes(int,int) long value(int,int) "
        + "long odds(int,int,int) long owe(int,int,int) long owed(int,int) long passed() long image(int) "
        + "long restore(int) long kind(int) long as(int,int) long ask(int,int) int trace(int) long count(int) "
        + "int status()";

    public static void main(String[] args) throws IOException {
        face();
        nested();
        source();
        Checks.end();
    }

    private static void holds(String what, boolean good) {
        Checks.due(what, good ? 1 : 0, 1);
    }

    private static void face() {
        Class<?> c = StringsSheet.class;
        holds("public and final", Modifier.isPublic(c.getModifiers()) && Modifier.isFinal(c.getModifiers()));
        Set<String> open = new TreeSet<>();
        Set<String> hidden = new TreeSet<>();
        for (Method m : c.getDeclaredMethods()) {
            if (m.isSynthetic()) {
                continue;
            }
            if (Modifier.isPrivate(m.getModifiers())) {
                hidden.add(m.getName());
            } else {
                StringBuilder told = new StringBuilder(m.getReturnType() + " " + m.getName() + "(");
                for (Class<?> p : m.getParameterTypes()) {
                    told.append(told.charAt(told.length() - 1) == '(' ? "" : ",").append(p);
                }
                open.add(told.append(")").toString());
                holds("public: " + told, Modifier.isPublic(m.getModifiers()) && !Modifier.isStatic(m.getModifiers()));
            }
        }
        Set<String> due = new TreeSet<>(Arrays.asList(FACE.split(" (?=long|int)")));
        holds("the face: " + open, open.equals(due));
        for (String told : due) {
            String name = told.substring(told.indexOf(' ') + 1, told.indexOf('('));
            holds("no private method is named " + name, !hidden.contains(name));
        }
        for (Field f : c.getDeclaredFields()) {
            boolean constant = f.getName().equals("NONE") || f.getName().equals("NOT");
            holds("field " + f, constant == !Modifier.isPrivate(f.getModifiers()));
        }
        Constructor<?>[] made = c.getDeclaredConstructors();
        holds("one constructor", made.length == 1 && Modifier.isPublic(made[0].getModifiers())
            && made[0].getParameterCount() == 0);
    }

    private static void nested() {
        Class<?>[] inside = StringsSheet.class.getDeclaredClasses();
        holds("some twelve classes", inside.length <= 11);
        for (Class<?> c : inside) {
            holds(c + " is static and hidden",
                Modifier.isStatic(c.getModifiers()) && !Modifier.isPublic(c.getModifiers())
                    && !Modifier.isProtected(c.getModifiers()));
            int fields = 0;
            for (Field f : c.getDeclaredFields()) {
                if (Modifier.isStatic(f.getModifiers())) {
                    holds(f + " is final", Modifier.isFinal(f.getModifiers()));
                } else {
                    fields++;
                }
            }
            holds(c + " has some twenty fields", fields <= 20);
            for (Method m : c.getDeclaredMethods()) {
                holds(m + " takes seven at most", m.getParameterCount() <= 7);
            }
        }
    }

    private static void source() throws IOException {
        List<String> lines = Files.readAllLines(Path.of("src/main/java/StringsSheet.java"));
        StringBuilder code = new StringBuilder();
        for (String line : lines) {
            holds("signs 1 to 127: " + line, line.chars().allMatch(sign -> sign < 128));
            boolean comment = line.strip().startsWith("*") || line.strip().startsWith("/*") || line.strip().startsWith("//");
            code.append(comment ? "" : line).append('\n');
        }
        String text = code.toString().replaceAll("\"[^\"\n]*\"", "TEXT").replaceAll("'[^'\n]*'", "0");
        for (String word : new String[] {"throw", "throws", "try", "catch", "finally", "synchronized", "assert", "package",
            "double", "float", "Object", "System\\.(?!arraycopy)", "Exact", "instanceof", "hashCode"}) {
            holds("no " + word, !Pattern.compile("\\b" + word).matcher(text).find());
        }
        holds("no lambda", !text.contains("->") && !text.contains("::"));
        holds("texts are not joined by +", !Pattern.compile("TEXT\\s*\\+|\\+\\s*TEXT").matcher(text).find());
        Matcher imports = Pattern.compile("import ([\\w.]+);").matcher(text);
        while (imports.find()) {
            holds("import " + imports.group(1), imports.group(1).equals("java.util.Arrays"));
        }
        methodsAreShort(lines);
    }

    private static void methodsAreShort(List<String> lines) {
        int start = -1;
        String end = "";
        for (int k = 0; k < lines.size(); k++) {
            String line = lines.get(k);
            Matcher m = Pattern.compile("^( {4}| {8})\\S.*\\) \\{$").matcher(line);
            if (start < 0 && m.find() && !line.contains(" class ")) {
                start = k;
                end = m.group(1) + "}";
            } else if (start >= 0 && line.equals(end)) {
                holds("short: " + lines.get(start).strip(), k - start < 60);
                start = -1;
            }
        }
        holds("all methods end", start < 0);
    }
}
