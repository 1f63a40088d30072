import java.lang.reflect.Constructor;
import java.lang.reflect.Field;
import java.lang.reflect.Method;
import java.lang.reflect.Modifier;
import java.nio.file.Files;
import java.nio.file.Path;
import java.util.Set;
import java.util.TreeSet;
import java.util.regex.Matcher;
import java.util.regex.Pattern;

/** The public face, and the rules of LANGUAGE.md that can be seen in the text. */
public final class LanguageTest {
    private static final String[] FACE = {
        "int put(int,int,int)", "int gone(int,int)", "boolean mark(int,int,int,int)",
        "int tear(int,int,int)", "int look(int,int,int)", "int about(int,int)",
        "boolean rule(int,int,int)", "long ways(int)", "boolean pick(int,long)",
        "int fewest(int)", "int why(int)", "int folding(int)", "int size(int)",
        "int place(int,int)", "int thing(int,int)", "int where(int,int,int)", "int write()",
        "int out(int)", "int feed(int,int,int,int,int)", "int end(int)", "int take()",
        "int read()", "int fault(int)", "boolean copy(int)", "int against(int,int)",
        "int differs(int,int,int,int)", "int ideal(int,int)"};

    public static void main(String[] args) throws Exception {
        face();
        classesInside();
        text();
        Check.end();
    }

    private static void face() {
        Class<?> c = QuireDesk.class;
        Set<String> due = new TreeSet<>(Set.of(FACE));
        Set<String> names = new TreeSet<>();
        Set<String> seen = new TreeSet<>();
        for (Method m : c.getDeclaredMethods()) {
            if (Modifier.isPublic(m.getModifiers())) {
                StringBuilder s = new StringBuilder(m.getReturnType() + " " + m.getName() + "(");
                for (Class<?> p : m.getParameterTypes()) {
                    s.append(s.charAt(s.length() - 1) == '(' ? "" : ",").append(p);
                }
                seen.add(s + ")");
                names.add(m.getName());
            } else {
                Check.is("private: " + m, Modifier.isPrivate(m.getModifiers()), true);
            }
        }
        Check.is("face", seen.toString(), due.toString());
        Check.is("final", Modifier.isFinal(c.getModifiers()), true);
        for (Field f : c.getDeclaredFields()) {
            boolean none = f.getName().equals("NONE");
            Check.is("field " + f, Modifier.isPublic(f.getModifiers()), none);
            Check.is("field " + f, Modifier.isPrivate(f.getModifiers()), !none);
        }
        Check.is("constructors", c.getDeclaredConstructors().length, 1);
        for (Constructor<?> k : c.getDeclaredConstructors()) {
            Check.is("constructor", Modifier.isPublic(k.getModifiers()), true);
            Check.is("of nothing", k.getParameterCount(), 0);
        }
        for (Class<?> inside : c.getDeclaredClasses()) {
            for (Method m : inside.getDeclaredMethods()) {
                Check.is("a name of the face: " + m, names.contains(m.getName()), false);
            }
        }
    }

    private static void classesInside() {
        Class<?>[] all = QuireDesk.class.getDeclaredClasses();
        Check.is("at most twelve classes", all.length < 12, true);
        for (Class<?> c : all) {
            Check.is("static: " + c, Modifier.isStatic(c.getModifiers()), true);
            Check.is("no classes in it: " + c, c.getDeclaredClasses().length, 0);
            for (Constructor<?> k : c.getDeclaredConstructors()) {
                // What a constructor is given would be a part of the object that is being made.
                Check.is("made of nothing: " + c, k.getParameterCount(), 0);
            }
            int fields = 0;
            for (Field f : c.getDeclaredFields()) {
                fields += Modifier.isStatic(f.getModifiers()) ? 0 : 1;
            }
            Check.is("at most twenty fields: " + c, fields <= 20, true);
            for (Method m : c.getDeclaredMethods()) {
                Check.is("at most seven parameters: " + m, m.getParameterCount() <= 7, true);
            }
        }
    }

    private static void text() throws Exception {
        String all = Files.readString(Path.of("src/main/java/QuireDesk.java"));
        Matcher odd = Pattern.compile("[^\\n\\x20-\\x7e]").matcher(all);
        Check.is("plain signs", odd.find(), false);
        String code = Pattern.compile("/\\*.*?\\*/|//[^\\n]*", Pattern.DOTALL).matcher(all)
                .replaceAll("");
        String[] words = {"throw", "throws", "try", "catch", "finally", "synchronized", "assert",
            "import", "package", "protected", "native", "volatile", "transient", "var", "record",
            "Object", "Thread", "Random", "System\\.out", "System\\.exit", "System\\.nano\\w*",
            "System\\.current\\w*", "\\w+Exact", "equals", "hashCode", "toString", "instanceof"};
        for (String word : words) {
            Matcher m = Pattern.compile("\\b" + word + "\\b").matcher(code);
            Check.is("no " + word, m.find(), false);
        }
        Check.is("no lambda", code.contains("->"), false);
        Check.is("no method reference", code.contains("::"), false);
        Check.is("no static block", Pattern.compile("static\\s*\\{").matcher(code).find(), false);
        methodsAreShort(code);
        nothingIsMadeByCalls(code);
    }

    private static void methodsAreShort(String code) {
        String[] lines = code.split("\\n");
        Pattern head = Pattern.compile("^ {4}( {4})?(?!private static final class)[\\w\\[\\] ]+\\(.*\\{$");
        int methods = 0;
        for (int i = 0; i < lines.length; i++) {
            if (head.matcher(lines[i]).matches()) {
                methods++;
                String close = lines[i].replaceAll("\\S.*", "") + "}";
                int k = i;
                while (!lines[k].equals(close)) {
                    k++;
                }
                Check.is("at most sixty lines: " + lines[i].trim(), k - i <= 60, true);
            }
        }
        Check.is("methods are seen", methods > 80, true);
    }

    /** All arrays and objects are made with the desk: no call fills the room. */
    private static void nothingIsMadeByCalls(String code) {
        for (String line : code.split("\\n")) {
            if (line.contains("new ")) {
                boolean field = line.matches("^ {4}( {4})?(private )?final .*= new .*;$");
                boolean inConstructor = line.matches("^ {12}(rows|kept)\\[i\\] = new \\w+\\(\\);$");
                Check.is("made by a call: " + line.trim(), field || inConstructor, true);
            }
        }
    }
}
