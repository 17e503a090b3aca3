import java.io.IOException;
import java.lang.reflect.Field;
import java.lang.reflect.Method;
import java.lang.reflect.Modifier;
import java.nio.file.Files;
import java.nio.file.Path;
import java.util.ArrayList;
import java.util.Arrays;
import java.util.HashSet;
import java.util.List;
import java.util.Set;
import java.util.TreeSet;

/** The face of the document, and those rules of LANGUAGE.md that can be seen from the class and its source. */
public final class LanguageTest {
    private static final Dues d = new Dues();
    private static final String SOURCE = "src/main/java/TownLisp.java";
    private static final String[] FACE = {
        "int town(int,int,int,int)", "int ofPerson(int,int)", "int tune(int,int)", "int heard(int)", "int day(int)",
        "int leave(int)", "int come(int)", "int gather(int)", "int pack(int,int)", "int open(int)",
        "int year(int,int,int,int,int)", "int asked(int,int,int)", "int gatherings(int,int)", "int level(int)",
        "int were(int,int,int)", "int rounds(int,int)", "long worth(int,int)", "long mean(int)",
        "int reading(int,int,int)", "int back(int)", "int ears(int)", "int kinds(int)", "long odds(int,int,int)",
        "int sheet(int,int,int)", "int lose(int)", "int put(int,int,int)", "long cell(int,int,int)",
        "int copy(int,int,int,int,int)", "int tell(int)", "int call(int)", "int as(int,int)", "int trace()",
        "int fault()", "int many(int)",
    };

    public static void main(String[] args) throws IOException {
        rule1Face();
        rule1Hidden();
        rule5Statics();
        sourceRules(Files.readString(Path.of(SOURCE)));
        d.end();
    }

    private static void rule1Face() {
        d.part("rule 1, the face");
        Class<?> c = TownLisp.class;
        d.holds("public and final", Modifier.isPublic(c.getModifiers()) && Modifier.isFinal(c.getModifiers()));
        d.due("constructors", c.getDeclaredConstructors().length, 1);
        d.holds("a public constructor", Modifier.isPublic(c.getDeclaredConstructors()[0].getModifiers()));
        d.due("its parameters", c.getDeclaredConstructors()[0].getParameterCount(), 0);
        Set<String> methods = new TreeSet<>();
        for (Method m : c.getDeclaredMethods()) {
            if (!Modifier.isPrivate(m.getModifiers())) {
                d.holds(m + " is public, no static one", (m.getModifiers() & ~Modifier.PUBLIC) == 0);
                methods.add(told(m));
            }
        }
        d.holds("the methods are " + methods, methods.equals(new TreeSet<>(Arrays.asList(FACE))));
        Set<String> fields = new TreeSet<>();
        for (Field f : c.getDeclaredFields()) {
            if (!Modifier.isPrivate(f.getModifiers())) {
                int wanted = Modifier.PUBLIC | Modifier.STATIC | Modifier.FINAL;
                d.holds(f + " is a public constant", f.getModifiers() == wanted);
                fields.add(f.getType() + " " + f.getName());
            }
        }
        List<String> due = List.of("int UNKNOWN", "int OUTSIDE", "int STATE", "int FULL", "int NONE", "long LOST");
        d.holds("the constants are " + fields, fields.equals(new TreeSet<>(due)));
    }

    private static String told(Method m) {
        List<String> types = new ArrayList<>();
        for (Class<?> type : m.getParameterTypes()) {
            types.add(type.getName());
        }
        return m.getReturnType().getName() + " " + m.getName() + "(" + String.join(",", types) + ")";
    }

    private static void rule1Hidden() {
        d.part("rules 1, 2, 11");
        Set<String> names = new HashSet<>();
        for (String method : FACE) {
            names.add(method.substring(method.indexOf(' ') + 1, method.indexOf('(')));
        }
        List<Class<?>> all = new ArrayList<>(List.of(TownLisp.class.getDeclaredClasses()));
        for (Class<?> inside : all) {
            d.holds(inside + " is static", Modifier.isStatic(inside.getModifiers()));
            d.holds(inside + " is not public", !Modifier.isPublic(inside.getModifiers()));
        }
        all.add(TownLisp.class);
        d.holds("few classes", all.size() <= 12);
        for (Class<?> c : all) {
            int fields = 0;
            for (Field f : c.getDeclaredFields()) {
                fields += Modifier.isStatic(f.getModifiers()) ? 0 : 1;
            }
            d.holds(c + " has few fields", fields <= 20);
            for (Method m : c.getDeclaredMethods()) {
                d.holds(m + " has few parameters", m.getParameterCount() <= 7);
                boolean ofFace = c == TownLisp.class && Modifier.isPublic(m.getModifiers());
                d.holds(m + " has a name of its own", ofFace || !names.contains(m.getName()));
            }
        }
    }

    private static void rule5Statics() {
        d.part("rule 5");
        List<Class<?>> types = List.of(int.class, long.class, boolean.class, char.class, String.class, int[].class);
        List<Class<?>> all = new ArrayList<>(List.of(TownLisp.class.getDeclaredClasses()));
        all.add(TownLisp.class);
        for (Class<?> c : all) {
            for (Field f : c.getDeclaredFields()) {
                boolean plain = Modifier.isFinal(f.getModifiers()) && types.contains(f.getType());
                d.holds(f + " is a constant", !Modifier.isStatic(f.getModifiers()) || plain);
            }
        }
    }

    private static void sourceRules(String source) {
        d.part("rules 4, 6, 11, 13");
        String code = source.replaceAll("(?s)/\\*.*?\\*/", "").replaceAll("//[^\n]*", "");
        String[] never = {
            "throw", "try", "catch", "synchronized", "assert", "import", "package", "protected", "hashCode",
            "toString", "float", "double", "Object", "\\w*Exact", "\\w*Exception", "Random", "Thread",
            "currentTimeMillis", "nanoTime",
        };
        for (String word : never) {
            d.holds("no " + word, !code.matches("(?s).*\\b" + word + "\\b.*"));
        }
        d.holds("no lambda, no method reference", !code.contains("->") && !code.contains("::"));
        for (char sign : source.toCharArray()) {
            d.holds("plain signs alone", sign == '\n' || sign >= 32 && sign < 127);
        }
        methodsStayShort(source);
    }

    /** By the file's own layout: a method's head and its closing bracket stand at the same depth. */
    private static void methodsStayShort(String source) {
        String[] lines = source.split("\n");
        for (int from = 0; from < lines.length; from++) {
            String head = lines[from];
            String depth = head.substring(0, head.length() - head.stripLeading().length());
            boolean ofClass = depth.length() == 4 || depth.length() == 8;
            if (head.endsWith(") {") && ofClass && !head.matches("\\s*(if|for|while|switch|\\}).*")) {
                int to = from;
                while (to < lines.length && !lines[to].equals(depth + "}")) {
                    to++;
                }
                d.holds(head.strip() + " is short", to - from < 60);
            }
        }
    }
}
