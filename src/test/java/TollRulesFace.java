import java.io.IOException;
import java.lang.reflect.Constructor;
import java.lang.reflect.Field;
import java.lang.reflect.Method;
import java.lang.reflect.Modifier;
import java.nio.file.Files;
import java.nio.file.Path;
import java.util.Arrays;
import java.util.Set;
import java.util.TreeSet;

/** The public face of the document, and nothing visible beside it. */
public final class TollRulesFace {
    private static final Path DOCUMENT = Path.of("../shared/DOC.md");
    private static final String[] FACE = {
        "long place(int,int)", "long has(int)", "int row(int,int)", "int share(int,int)",
        "int put(int,int,int)", "long item(int,int)", "int rule(int,int,int)", "int apply(int,int)",
        "int each(int,int)", "int keep(int,int)", "int order(int,int)", "int fold(int,int,int)",
        "int until(int,int,int,int)", "int result()", "int steps()", "int failed(int)", "int count(int)",
        "int BAD", "int FULL", "long NONE", "new()",
    };

    public static void main(String[] args) throws IOException {
        Class<?> c = TollRules.class;
        Set<String> visible = new TreeSet<>();
        Set<String> publicNames = new TreeSet<>();
        int wrong = 0;
        for (Method m : c.getDeclaredMethods()) {
            if (!Modifier.isPrivate(m.getModifiers())) {
                visible.add(m.getReturnType() + " " + m.getName() + types(m.getParameterTypes()));
                publicNames.add(m.getName());
                wrong += check(m.getName() + " is public, not static",
                        Modifier.isPublic(m.getModifiers()) && !Modifier.isStatic(m.getModifiers()));
            }
        }
        for (Method m : c.getDeclaredMethods()) {
            wrong += check("private " + m.getName() + " bears no public name",
                    !Modifier.isPrivate(m.getModifiers()) || !publicNames.contains(m.getName()));
        }
        for (Field f : c.getDeclaredFields()) {
            if (!Modifier.isPrivate(f.getModifiers())) {
                visible.add(f.getType() + " " + f.getName());
                wrong += check(f.getName() + " is a public constant", Modifier.isPublic(f.getModifiers())
                        && Modifier.isStatic(f.getModifiers()) && Modifier.isFinal(f.getModifiers()));
            }
            wrong += check(f.getName() + " is no static state",
                    !Modifier.isStatic(f.getModifiers()) || Modifier.isFinal(f.getModifiers()));
        }
        for (Constructor<?> n : c.getDeclaredConstructors()) {
            visible.add("new" + types(n.getParameterTypes()));
            wrong += check("the constructor is public", Modifier.isPublic(n.getModifiers()));
        }
        Set<String> due = new TreeSet<>(Arrays.asList(FACE));
        wrong += check("the face is " + due + ", found " + visible, due.equals(visible));
        wrong += faceOfDocument(due);
        wrong += check("the class is public and final",
                Modifier.isPublic(c.getModifiers()) && Modifier.isFinal(c.getModifiers()));
        wrong += check("BAD", TollRules.BAD == -1);
        wrong += check("FULL", TollRules.FULL == -2);
        wrong += check("NONE", TollRules.NONE == Long.MIN_VALUE);
        System.out.println(wrong == 0 ? "the face is as due" : wrong + " parts of the face are not as due");
        if (wrong != 0) {
            System.exit(1);
        }
    }

    /** The face above is the one that the document writes, name by name. */
    private static int faceOfDocument(Set<String> due) throws IOException {
        if (!Files.isReadable(DOCUMENT)) {
            System.out.println("the face is not held against " + DOCUMENT + ": it can't be read");
            return 0;
        }
        Set<String> written = new TreeSet<>();
        for (String line : Files.readString(DOCUMENT).split("```")[1].split("\n")) {
            String member = line.strip().replaceAll("^public |;$", "");
            if (member.startsWith("static final ")) {
                addConstants(written, member.replace("static final ", ""));
            } else if (member.contains("(")) {
                String withoutNames = member.replaceAll("(int|long) \\w+(?=[,)])", "$1").replace(", ", ",");
                written.add(withoutNames.replace("TollRules(", "new("));
            }
        }
        return check("the document writes " + written + ", due is " + due, written.equals(due));
    }

    /** Of one line, such as: int BAD = -1, FULL = -2. */
    private static void addConstants(Set<String> written, String line) {
        String[] words = line.split("[ ,]+");
        for (int i = 1; i < words.length; i += 3) {
            written.add(words[0] + " " + words[i]);
        }
    }

    private static String types(Class<?>[] types) {
        StringBuilder text = new StringBuilder("(");
        for (int i = 0; i < types.length; i++) {
            text.append(i == 0 ? "" : ",").append(types[i]);
        }
        return text.append(")").toString();
    }

    private static int check(String what, boolean holds) {
        if (!holds) {
            System.out.println("not so: " + what);
        }
        return holds ? 0 : 1;
    }
}
