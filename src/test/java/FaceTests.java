import java.lang.reflect.Constructor;
import java.lang.reflect.Field;
import java.lang.reflect.Method;
import java.lang.reflect.Modifier;
import java.nio.file.Files;
import java.nio.file.Path;
import java.util.Arrays;
import java.util.Set;
import java.util.TreeSet;
import java.util.regex.Matcher;
import java.util.regex.Pattern;

/** The public face is the document's and nothing more; the source keeps to LANGUAGE.md where that can be read off. */
public final class FaceTests {
    private static int wrong = 0;

    private static void same(String what, Object got, Object want) {
        if (!got.equals(want)) {
            wrong++;
            System.out.println(what + ": is " + got + ", due is " + want);
        }
    }

    private static final Set<String> METHODS = new TreeSet<>(Arrays.asList(
            "begins/2", "puts/2", "receives/2", "crashes/1", "raises/0", "undo/0",
            "site/2", "receipt/3", "letter/4", "carries/4", "knows/2", "past/3",
            "risk/2", "worst/1", "sees/2", "forget/0", "which/1", "ask/0",
            "keep/1", "back/1", "count/1"));

    private static boolean isPublicName(String name) {
        return METHODS.stream().anyMatch(m -> m.startsWith(name + "/"));
    }

    private static void face() throws Exception {
        Class<?> c = CarriedOrders.class;
        same("modifiers", c.getModifiers(), Modifier.PUBLIC | Modifier.FINAL);
        Set<String> methods = new TreeSet<>();
        for (Method m : c.getDeclaredMethods()) {
            if (Modifier.isPrivate(m.getModifiers())) {
                same("private " + m.getName() + " bears a public name", isPublicName(m.getName()), false);
                continue;
            }
            same(m.getName() + " modifiers", m.getModifiers(), Modifier.PUBLIC);
            same(m.getName() + " answers", m.getReturnType(), int.class);
            for (Class<?> p : m.getParameterTypes()) {
                same(m.getName() + " takes", p, int.class);
            }
            methods.add(m.getName() + "/" + m.getParameterCount());
        }
        same("methods", methods, METHODS);
        Constructor<?>[] made = c.getDeclaredConstructors();
        same("constructors", made.length, 1);
        same("constructor's parameters", made[0].getParameterCount(), 0);
        same("constructor", made[0].getModifiers(), Modifier.PUBLIC);
        Set<String> constants = new TreeSet<>();
        for (Field f : c.getDeclaredFields()) {
            if (Modifier.isStatic(f.getModifiers())) {
                same(f.getName() + " final", Modifier.isFinal(f.getModifiers()), true);
            }
            if (!Modifier.isPrivate(f.getModifiers())) {
                same(f.getName() + " modifiers", f.getModifiers(), Modifier.PUBLIC | Modifier.STATIC | Modifier.FINAL);
                constants.add(f.getName() + "=" + f.getInt(null));
            }
        }
        same("constants", constants, new TreeSet<>(Arrays.asList("BAD=-1", "STATE=-2", "FULL=-3", "NONE=-9")));
        for (Class<?> inside : c.getDeclaredClasses()) {
            same(inside.getName() + " static", Modifier.isStatic(inside.getModifiers()), true);
            for (Method m : inside.getDeclaredMethods()) {
                same(m.getName() + " inside bears a public name", isPublicName(m.getName()), false);
            }
        }
    }

    private static void language(String text) {
        String bare = text.replaceAll("(?s)/\\*.*?\\*/", "").replaceAll("//[^\n]*", "");
        for (String word : new String[] {"throw", "throws", "try", "catch", "synchronized", "assert", "package",
                "protected", "Random", "System\\.(?!arraycopy)", "Thread", "Object", "->", "::", "\\w+Exact\\("}) {
            Pattern p = Pattern.compile(word.matches("[a-zA-Z]+") ? "\\b" + word + "\\b" : word);
            Matcher m = p.matcher(bare);
            same("source has " + word, m.find(), false);
        }
        Matcher imports = Pattern.compile("import ([^;]+);").matcher(bare);
        while (imports.find()) {
            same("import", imports.group(1), "java.util.Arrays");
        }
    }

    private static void atMost(String what, int got, int most) {
        same(what + " (" + got + "), more than " + most, got > most, false);
    }

    private static void sizes(String text) {
        Class<?>[] inside = CarriedOrders.class.getDeclaredClasses();
        atMost("classes", 1 + inside.length, 12);
        Class<?>[] all = Arrays.copyOf(inside, inside.length + 1);
        all[inside.length] = CarriedOrders.class;
        for (Class<?> c : all) {
            int fields = 0;
            for (Field f : c.getDeclaredFields()) {
                fields += Modifier.isStatic(f.getModifiers()) ? 0 : 1;
            }
            atMost("fields of " + c.getName(), fields, 20);
            for (Method m : c.getDeclaredMethods()) {
                atMost("parameters of " + m.getName(), m.getParameterCount(), 7);
            }
        }
        Matcher methods = Pattern.compile("(?ms)^( {4}| {8})\\w[^\n;=]*\\) \\{$.*?^\\1\\}$").matcher(text);
        int found = 0;
        while (methods.find()) {
            found++;
            String[] lines = methods.group().split("\n");
            atMost("lines of" + lines[0], lines.length, 60);
        }
        // Those of the face at least, or the lines above did not find them.
        same("methods found in the source", found > METHODS.size(), true);
    }

    /** All rows are made with the object: behind the constructor, "new" is only in what a class inside is made with. */
    private static void noCallMakesAnObject(String text) {
        String calls = text.substring(text.indexOf("// ---- what is done"));
        Pattern making = Pattern.compile("\\bnew \\w|\\.clone\\(|copyOf");
        for (String line : calls.split("\n")) {
            boolean made = making.matcher(line.replaceAll("//.*|^\\s*/?\\*.*", "")).find();
            boolean field = line.matches(" {8}final int\\[\\] \\w+ = new int\\[[A-Z_* ]+\\];");
            same("makes an object:" + line, made && !field, false);
        }
    }

    public static void main(String[] args) throws Exception {
        String text = Files.readString(Path.of("src/main/java/CarriedOrders.java"));
        face();
        language(text);
        sizes(text);
        noCallMakesAnObject(text);
        System.out.println(wrong == 0 ? "the face is as due" : wrong + " faults");
        if (wrong != 0) {
            System.exit(1);
        }
    }
}
