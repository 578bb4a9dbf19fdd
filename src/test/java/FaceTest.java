import java.io.IOException;
import java.lang.reflect.Constructor;
import java.lang.reflect.Field;
import java.lang.reflect.Member;
import java.lang.reflect.Method;
import java.lang.reflect.Modifier;
import java.nio.file.Files;
import java.nio.file.Path;
import java.util.HashSet;
import java.util.Set;
import java.util.TreeSet;
import java.util.regex.Matcher;
import java.util.regex.Pattern;

/** The public face, and those rules of LANGUAGE.md that can be seen by reflection or in the source. */
public final class FaceTest {
    private static final String[] FACE = {
        "NUMBER = -1", "FULL = -2", "TWICE = -3", "NONE = -4", "KIND = -5", "NOTHING = -10000000",
        "HullRegister()", "feed(int)", "scrap()", "act(int)", "inForce(int)", "tons(int,int,int,int,int)",
        "shape(int,int,int)", "hull(int,int,int,int)", "alter(int,int,int,int,int)", "measure(int,int)",
        "of(int,int)", "sell(int,int,int,int)", "pledge(int,int,int,int)", "redeem(int)", "forge(int)",
        "entry(int,int)", "parts(int,int,boolean)", "manager(int)", "held(int,int)",
        "paper(int,int,int,int,int)", "witness(int,int,boolean)", "alike(int,int)", "group(int)", "groups()",
        "many(int)"};
    private static final String[] BANNED = {"throw", "throws", "try", "catch", "finally", "synchronized", "assert",
        "package", "volatile", "native", "instanceof", "Object", "Exception", "System.out", "System.exit",
        "System.nanoTime", "System.currentTimeMillis", "Thread", "Random", "->", "::"};

    public static void main(String[] args) throws IOException, IllegalAccessException {
        faceIsTheDocuments();
        nestedClassesAreStaticAndHidden();
        noPrivateMethodHasAPublicName();
        sourceKeepsToTheRules(args);
        Check.end();
    }

    private static String types(Class<?>[] parameters) {
        StringBuilder made = new StringBuilder("(");
        for (Class<?> type : parameters) {
            made.append(made.length() > 1 ? "," : "").append(type.getName());
        }
        return made.append(')').toString();
    }

    private static boolean isHidden(Member member) {
        return Modifier.isPrivate(member.getModifiers());
    }

    private static void faceIsTheDocuments() throws IllegalAccessException {
        Set<String> seen = new TreeSet<>();
        for (Field f : HullRegister.class.getDeclaredFields()) {
            if (!isHidden(f)) {
                Check.due("modifiers of " + f.getName(), f.getModifiers(),
                        Modifier.PUBLIC | Modifier.STATIC | Modifier.FINAL);
                seen.add(f.getName() + " = " + f.getInt(null));
            }
        }
        for (Constructor<?> c : HullRegister.class.getDeclaredConstructors()) {
            Check.due("modifiers of the constructor", c.getModifiers(), Modifier.PUBLIC);
            seen.add("HullRegister" + types(c.getParameterTypes()));
        }
        for (Method m : HullRegister.class.getDeclaredMethods()) {
            if (!isHidden(m)) {
                Check.due("modifiers of " + m.getName(), m.getModifiers(), Modifier.PUBLIC);
                Check.holds(m.getName() + " answers int", m.getReturnType() == int.class);
                seen.add(m.getName() + types(m.getParameterTypes()));
            }
        }
        Set<String> due = new TreeSet<>(Set.of(FACE));
        Check.holds("the face is " + due + " (seen: " + seen + ")", due.equals(seen));
        Check.due("modifiers of the class", HullRegister.class.getModifiers(), Modifier.PUBLIC | Modifier.FINAL);
        Check.holds("the class extends nothing", HullRegister.class.getSuperclass() == Object.class);
    }

    private static void nestedClassesAreStaticAndHidden() {
        Class<?>[] nested = HullRegister.class.getDeclaredClasses();
        Check.holds("at most twelve classes", nested.length < 12);
        for (Class<?> c : nested) {
            Check.holds(c + " is static", Modifier.isStatic(c.getModifiers()));
            Check.holds(c + " isn't public", !Modifier.isPublic(c.getModifiers()));
            int fields = 0;
            for (Field f : c.getDeclaredFields()) {
                boolean constant = Modifier.isStatic(f.getModifiers());
                Check.holds(f + " is final if static", !constant || Modifier.isFinal(f.getModifiers()));
                fields += constant ? 0 : 1;
            }
            Check.holds(c + " has some twenty fields at most", fields <= 20);
            for (Method m : c.getDeclaredMethods()) {
                Check.holds(m + " takes at most seven", m.getParameterCount() <= 7);
            }
        }
    }

    private static void noPrivateMethodHasAPublicName() {
        Set<String> open = new HashSet<>();
        for (Method m : HullRegister.class.getMethods()) {
            open.add(m.getName());
        }
        for (Method m : HullRegister.class.getDeclaredMethods()) {
            Check.holds(m + " has its own name", !isHidden(m) || !open.contains(m.getName()));
        }
        for (Class<?> c : HullRegister.class.getDeclaredClasses()) {
            for (Method m : c.getDeclaredMethods()) {
                Check.holds(m + " has its own name", !open.contains(m.getName()));
            }
        }
    }

    private static void sourceKeepsToTheRules(String[] args) throws IOException {
        Path root = Path.of(args.length > 0 ? args[0] : ".");
        String source = Files.readString(root.resolve("src/main/java/HullRegister.java"));
        String code = source.replaceAll("(?s)/\\*.*?\\*/", " ").replaceAll("//[^\n]*", " ");
        for (String word : BANNED) {
            String edge = Character.isLetter(word.charAt(0)) ? "\\b" : "";
            Check.holds("the source has no " + word, !Pattern.compile(edge + Pattern.quote(word) + edge).matcher(code).find());
        }
        Matcher imports = Pattern.compile("import ([^;]*);").matcher(code);
        while (imports.find()) {
            Check.holds("import of " + imports.group(1), imports.group(1).matches("java\\.util\\.(Arrays|ArrayList|List)"));
        }
        for (String area : new String[] {"acts", "hulls", "entries", "papers"}) {
            Check.holds("the interface says ---- " + area, source.contains("// ---- " + area + "\n"));
        }
    }
}
