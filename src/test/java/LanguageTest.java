import java.lang.reflect.Constructor;
import java.lang.reflect.Field;
import java.lang.reflect.Method;
import java.lang.reflect.Modifier;
import java.nio.file.Files;
import java.nio.file.Paths;
import java.util.ArrayList;
import java.util.Arrays;
import java.util.List;
import java.util.Set;
import java.util.TreeSet;
import java.util.regex.Matcher;
import java.util.regex.Pattern;

/** The rules of LANGUAGE.md and the face of the document, as far as a look at the source and the class can tell. */
public final class LanguageTest {
    private static final String FACE = "int feed(int,int,int,int,int) boolean end(int) int pane() int fault(int) int has(int) "
        + "int letter(int,int) int cell(int,int,int) long slack(int,int) int person(int,int) int lifts(int,int,int) int kept(int,int) "
        + "int later(int,int) int next() int lasts(int) int free() int needed() int stand(int,int) int weak(int) int mends(int,int) "
        + "int sound() int who(int) int knock(int) boolean rest(int,int) boolean go(int,int,int) boolean mend(int,int) int hours(int) "
        + "int chance(int) boolean undo() boolean seed(int) long ask() int image() int octet(int) boolean on() int status(int)";

    private static void due(String what, boolean holds) {
        Desk.due(what, true, holds);
    }

    private static List<Class<?>> classes() {
        List<Class<?>> all = new ArrayList<>(Arrays.asList(OnePane.class.getDeclaredClasses()));
        all.add(OnePane.class);
        return all;
    }

    private static String signature(Method m) {
        StringBuilder b = new StringBuilder(m.getReturnType().getName()).append(" ").append(m.getName()).append("(");
        for (Class<?> type : m.getParameterTypes()) {
            b.append(b.charAt(b.length() - 1) == '(' ? "" : ",").append(type.getName());
        }
        return b.append(")").toString();
    }

    private static void checkFace() {
        Set<String> face = new TreeSet<>();
        Set<String> names = new TreeSet<>();
        for (Method m : OnePane.class.getDeclaredMethods()) {
            if (!Modifier.isPrivate(m.getModifiers()) && !m.isSynthetic()) {
                face.add(signature(m));
                names.add(m.getName());
                due("1: public " + m, Modifier.isPublic(m.getModifiers()));
            }
        }
        Set<String> wanted = new TreeSet<>(Arrays.asList(FACE.replaceAll("\\) ", ")\n").split("\n")));
        due("1: the face is " + face, face.equals(wanted));
        for (Class<?> c : classes()) {
            for (Method m : c.getDeclaredMethods()) {
                due("1: " + m + " bears a public name", c == OnePane.class && Modifier.isPublic(m.getModifiers()) || !names.contains(m.getName()));
            }
        }
        due("1: public final", OnePane.class.getModifiers() == (Modifier.PUBLIC | Modifier.FINAL));
        for (Constructor<?> c : OnePane.class.getDeclaredConstructors()) {
            due("1: constructor", Modifier.isPublic(c.getModifiers()) && c.getParameterCount() == 0);
        }
        for (Field f : OnePane.class.getDeclaredFields()) {
            boolean told = f.getName().equals("NONE") || f.getName().equals("NOTHING");
            due("1: " + f, told == Modifier.isPublic(f.getModifiers()) && (told || Modifier.isPrivate(f.getModifiers())));
        }
    }

    private static void checkShapes() {
        due("11: twelve classes", classes().size() <= 12);
        for (Class<?> c : classes()) {
            int fields = 0;
            due("2: static " + c, c == OnePane.class || Modifier.isStatic(c.getModifiers()));
            for (Field f : c.getDeclaredFields()) {
                if (Modifier.isStatic(f.getModifiers())) {
                    due("5: final " + f, Modifier.isFinal(f.getModifiers()));
                    due("5: type of " + f, Arrays.asList("int", "long", "String", "int[]").contains(f.getType().getSimpleName()));
                } else {
                    fields++;
                }
            }
            due("11: fields of " + c, fields <= 20);
            for (Method m : c.getDeclaredMethods()) {
                due("11: parameters of " + m, m.getParameterCount() <= 7);
            }
        }
    }

    private static String bare(String source) {
        return source.replaceAll("(?s)/\\*.*?\\*/", "").replaceAll("//[^\n]*", "").replaceAll("\"[^\"\n]*\"", "TEXT").replaceAll("'.'", "SIGN");
    }

    private static void checkSource(String source) {
        String bare = bare(source);
        String words = "import package throw throws try catch finally synchronized assert instanceof volatile native enum record "
            + "double float Object Integer\\.valueOf System\\.out System\\.currentTimeMillis Random Thread var yield sealed";
        for (String word : words.split(" ")) {
            due("no " + word, !Pattern.compile("\\b" + word + "\\b").matcher(bare).find());
        }
        for (String sign : new String[] {"->", "::", "@", "Exact", "TEXT +", "+ TEXT", "? extends", "static {"}) {
            due("no " + sign, !bare.contains(sign));
        }
        for (int i = 0; i < source.length(); i++) {
            due("3: sign at " + i, source.charAt(i) == '\n' || source.charAt(i) >= 32 && source.charAt(i) < 127);
        }
        due("9: no while", !Pattern.compile("\\b(while|do)\\b").matcher(bare).find());
        Matcher library = Pattern.compile("\\b(Math|Integer|Long|System|Arrays|String|Character)\\.(\\w+)").matcher(bare);
        List<String> listed = Arrays.asList("Math.max", "Math.min", "Math.abs", "Math.floorDiv", "Integer.bitCount", "Long.bitCount", "System.arraycopy");
        while (library.find()) {
            due("4: " + library.group(), listed.contains(library.group()));
        }
    }

    /** Objects are made with the object alone: what a run makes does not grow with its calls. */
    private static void checkMaking() {
        com.sun.management.ThreadMXBean beans = (com.sun.management.ThreadMXBean) java.lang.management.ManagementFactory.getThreadMXBean();
        long id = Thread.currentThread().getId();
        String rich = PromiseBase.TOWN + "pole c at 1 1 lifts 3;";
        byte[] pane = rich.getBytes(java.nio.charset.StandardCharsets.ISO_8859_1);
        byte[] question = "most far(number+1)*2".getBytes(java.nio.charset.StandardCharsets.ISO_8859_1);
        byte[] sounds = {1, 0, 1, (byte) 248, 0, 0, 1, 1};
        OnePane x = new OnePane();
        long made = 0;
        for (int round = 0; round < 3; round++) {
            long before = beans.getThreadAllocatedBytes(id);
            callAll(x, pane, question, sounds);
            made = beans.getThreadAllocatedBytes(id) - before;
        }
        due("12: calls make " + made + " bytes", made == 0);
    }

    private static void callAll(OnePane x, byte[] pane, byte[] question, byte[] sounds) {
        Desk.put(x, pane);
        x.pane();
        for (int i = 0; i < 12; i++) {
            x.hours(1);
            x.chance(2);
            x.rest(1, i & 1);
            x.go(0, i % 3, i & 1);
            x.mend(i % 3, i & 1);
            x.later(60, i % 3);
            x.next();
            x.lasts(30);
            x.free();
            x.needed();
            x.stand(0, 0);
            x.weak(0);
            x.mends(30, 0);
            x.who(i % 3);
            x.knock(0);
            x.has(5);
            x.cell(0, 0, 2);
            x.slack(0, 0);
            x.person(0, 4);
            x.lifts(0, 0, 0);
            x.kept(0, 0);
            x.letter(0, 0);
            x.image();
            x.octet(3);
            x.undo();
            Desk.put(x, question);
            x.ask();
            Desk.put(x, sounds);
            x.sound();
            Desk.put(x, question);
            x.pane();
            Desk.put(x, sounds);
            x.on();
        }
    }

    private static void checkLengths(String source) {
        int from = 0;
        String[] lines = source.split("\n");
        for (int i = 0; i < lines.length; i++) {
            if (lines[i].matches("    (    )?\\S.*\\) \\{")) {
                from = i;
            }
            if (lines[i].matches("    (    )?\\}")) {
                due("11: sixty lines at " + (from + 1), i - from <= 60 || lines[from].contains("class"));
            }
        }
    }

    public static void main(String[] args) throws Exception {
        Desk.topic = "language";
        String source = new String(Files.readAllBytes(Paths.get("src/main/java/OnePane.java")), "ISO-8859-1");
        checkFace();
        checkShapes();
        checkSource(source);
        checkMaking();
        checkLengths(source);
        Desk.close("language");
    }
}
