import java.lang.reflect.Constructor;
import java.lang.reflect.Field;
import java.lang.reflect.Method;
import java.lang.reflect.Modifier;
import java.nio.file.Files;
import java.nio.file.Path;
import java.util.Set;
import java.util.TreeSet;

/** The class's face and the plainer rules of LANGUAGE.md, from the class and its source as they are. */
public final class FaceCheck {
    private static final String SOURCE = "src/main/java/NextWay.java";
    private static final String FACE = "as(int,int) back(int) corner(int,int) count(int) erase() fault() go(int) keep(int) "
        + "later(int,int,int) meet(int,int,int) often(int,int,int) past(int,int,int) pennies(int,int,int,int) put(int,int) "
        + "quick(int,int,int) round(int,int) settled(int) shares(int,int,int) slow(int,int) town() turn(int) walker(int) "
        + "way(int,int) when(int,int) write(long,int)";
    private static final String[] WORDS = {"throw", "throws", "try", "catch", "synchronized", "assert", "import", "package",
        "hashCode", "toString", "native", "volatile", "Object", "Random", "System.out", "Thread"};
    private static int wrong = 0;

    private static void hold(boolean is, String rule) {
        if (!is) {
            wrong++;
            System.out.println("broken: " + rule);
        }
    }

    /** A method with its types; a static one is told from the face's, none of which is. */
    private static String signature(Method m) {
        StringBuilder s = new StringBuilder(Modifier.isStatic(m.getModifiers()) ? "static " : "").append(m.getName()).append('(');
        for (Class<?> p : m.getParameterTypes()) {
            s.append(s.charAt(s.length() - 1) == '(' ? "" : ",").append(p.getName());
        }
        return s.append(')').toString();
    }

    private static void checkFace() throws Exception {
        Set<String> shown = new TreeSet<>();
        Set<String> names = new TreeSet<>();
        for (Method m : NextWay.class.getDeclaredMethods()) {
            if (Modifier.isPublic(m.getModifiers())) {
                shown.add(signature(m));
                names.add(m.getName());
                hold(m.getReturnType() == int.class, "int is what " + m + " answers");
            } else {
                hold(Modifier.isPrivate(m.getModifiers()), "private is " + m);
            }
        }
        hold(String.join(" ", shown).equals(FACE), "the face is as in the document, not " + shown);
        hold(Modifier.isFinal(NextWay.class.getModifiers()), "the class is final");
        for (Constructor<?> c : NextWay.class.getDeclaredConstructors()) {
            hold(Modifier.isPublic(c.getModifiers()) && c.getParameterCount() == 0, "one constructor, not " + c);
        }
        Set<String> constants = new TreeSet<>();
        for (Field f : NextWay.class.getDeclaredFields()) {
            if (Modifier.isPublic(f.getModifiers())) {
                boolean isConstant = Modifier.isStatic(f.getModifiers()) && Modifier.isFinal(f.getModifiers());
                hold(isConstant && f.getType() == int.class, "a constant of int is " + f);
                constants.add(f.getName() + "=" + (isConstant ? f.get(null) : "?"));
            } else {
                hold(Modifier.isPrivate(f.getModifiers()), "private is " + f);
            }
        }
        hold(constants.toString().equals("[FULL=-5, NONE=-1, NOT=-4, OUTSIDE=-3, UNKNOWN=-2]"), "the constants, not " + constants);
        hold(NextWay.class.getDeclaredConstructors().length == 1, "one constructor");
        hold(NextWay.class.getDeclaredClasses().length <= 11, "twelve classes at most");
        checkClass(NextWay.class, names);
        for (Class<?> inside : NextWay.class.getDeclaredClasses()) {
            hold(Modifier.isStatic(inside.getModifiers()) && !Modifier.isPublic(inside.getModifiers()), "static: " + inside);
            checkClass(inside, names);
        }
    }

    private static void checkClass(Class<?> c, Set<String> shown) {
        int fields = 0;
        for (Field f : c.getDeclaredFields()) {
            boolean isStatic = Modifier.isStatic(f.getModifiers());
            hold(!isStatic || Modifier.isFinal(f.getModifiers()), "static fields are final: " + f);
            fields += isStatic ? 0 : 1;
        }
        hold(fields <= 20, "twenty fields at most: " + c);
        for (Method m : c.getDeclaredMethods()) {
            hold(m.getParameterCount() <= 7, "seven parameters at most: " + m);
            hold(c == NextWay.class && Modifier.isPublic(m.getModifiers()) || !shown.contains(m.getName()),
                "no other method bears the name of a public one: " + m);
        }
    }

    private static void checkSource() throws Exception {
        String code = Files.readString(Path.of(SOURCE)).replaceAll("(?s)/\\*.*?\\*/", "").replaceAll("//[^\n]*", "")
            .replaceAll("\"[^\"\n]*\"", "\"\"");
        for (String word : WORDS) {
            hold(!code.matches("(?s).*\\b" + word + "\\b.*"), "no " + word);
        }
        hold(!code.contains("->") && !code.contains("::"), "no lambda, no method reference");
        int first = 0;
        String[] lines = code.split("\n");
        for (int i = 0; i < lines.length; i++) {
            if (lines[i].matches(" {4}( {4})?\\S.*\\) \\{")) {
                first = i;
            }
            hold(!lines[i].matches(" {4}( {4})?\\}") || i - first <= 60 || lines[i].length() == 5, "short methods: line " + i);
        }
    }

    public static void main(String[] args) throws Exception {
        checkFace();
        checkSource();
        System.out.println(wrong == 0 ? "the face is as it must be" : wrong + " rules are broken");
        if (wrong != 0) {
            System.exit(1);
        }
    }
}
