import java.io.IOException;
import java.lang.reflect.Constructor;
import java.lang.reflect.Field;
import java.lang.reflect.Member;
import java.lang.reflect.Method;
import java.lang.reflect.Modifier;
import java.nio.file.Files;
import java.nio.file.Path;
import java.util.Arrays;
import java.util.Set;
import java.util.TreeSet;
import java.util.regex.Matcher;
import java.util.regex.Pattern;

/** The public face of the document, and those rules of LANGUAGE.md that can be seen from outside. */
final class FaceTest {
    private static final Path DOCUMENT = Path.of("../shared/DOC.md");
    private static final Path SOURCE = Path.of("src/main/java/SieveBench.java");

    public static void main(String[] args) throws IOException {
        constants();
        face();
        nestedClasses();
        source();
        Due.close();
    }

    private static void constants() {
        Due.is("INVALID_ARGUMENT", -1, SieveBench.INVALID_ARGUMENT);
        Due.is("ILLEGAL_STATE", -2, SieveBench.ILLEGAL_STATE);
        Due.is("CAPACITY_EXCEEDED", -3, SieveBench.CAPACITY_EXCEEDED);
        Due.is("NONE", -9, SieveBench.NONE);
    }

    private static Set<String> wantedFace() throws IOException {
        String text = Files.readString(DOCUMENT);
        String code = text.substring(text.indexOf("```java"), text.indexOf("```\n\n## Description"));
        Set<String> wanted = new TreeSet<>();
        Matcher method = Pattern.compile("public int (\\w+)\\((.*?)\\);").matcher(code);
        while (method.find()) {
            int parameters = method.group(2).isEmpty() ? 0 : method.group(2).split(",").length;
            wanted.add(method.group(1) + "/" + parameters);
        }
        Matcher constant = Pattern.compile("public static final int (\\w+) =").matcher(code);
        while (constant.find()) {
            wanted.add(constant.group(1));
        }
        wanted.add("SieveBench/0");
        return wanted;
    }

    private static void face() throws IOException {
        Class<?> bench = SieveBench.class;
        Due.holds("public and final", (bench.getModifiers() & (Modifier.PUBLIC | Modifier.FINAL))
                == (Modifier.PUBLIC | Modifier.FINAL));
        Set<String> found = new TreeSet<>();
        for (Method m : bench.getDeclaredMethods()) {
            if (isOpen(m)) {
                found.add(m.getName() + "/" + m.getParameterCount());
                Due.holds(m + " is of int alone", m.getReturnType() == int.class
                        && Arrays.stream(m.getParameterTypes()).allMatch(type -> type == int.class));
            }
        }
        for (Field f : bench.getDeclaredFields()) {
            if (isOpen(f)) {
                found.add(f.getName());
            }
        }
        for (Constructor<?> c : bench.getDeclaredConstructors()) {
            if (isOpen(c)) {
                found.add("SieveBench/" + c.getParameterCount());
            }
        }
        Due.holds("the face is " + found, found.equals(wantedFace()));
    }

    /** Open to the outside: whatever is not private, and not the compiler's own. */
    private static boolean isOpen(Member member) {
        return !Modifier.isPrivate(member.getModifiers()) && !member.isSynthetic();
    }

    private static void nestedClasses() throws IOException {
        Set<String> face = wantedFace();
        for (Class<?> nested : SieveBench.class.getDeclaredClasses()) {
            int modifiers = nested.getModifiers();
            Due.holds(nested + " is static", Modifier.isStatic(modifiers));
            Due.holds(nested + " is not public", !Modifier.isPublic(modifiers) && !Modifier.isProtected(modifiers));
            Due.holds(nested + " has few fields", nested.getDeclaredFields().length <= 20);
            for (Method m : nested.getDeclaredMethods()) {
                Due.holds(m + " has a name of its own",
                        face.stream().noneMatch(name -> name.startsWith(m.getName() + "/")));
            }
        }
        for (Method m : SieveBench.class.getDeclaredMethods()) {
            if (Modifier.isPrivate(m.getModifiers())) {
                Due.holds(m + " has a name of its own",
                        face.stream().noneMatch(name -> name.startsWith(m.getName() + "/")));
            }
        }
    }

    private static void source() throws IOException {
        String code = Files.readString(SOURCE).replaceAll("(?s)/\\*.*?\\*/|//[^\\n]*", "");
        for (String word : new String[] {"throw", "try", "catch", "synchronized", "assert", "import", "package",
            "->", "::", "String", "protected", "toString", "hashCode"}) {
            boolean found = Character.isLetter(word.charAt(0))
                ? Pattern.compile("\\b" + word + "\\b").matcher(code).find() : code.contains(word);
            Due.holds("the source has no " + word, !found);
        }
    }
}
