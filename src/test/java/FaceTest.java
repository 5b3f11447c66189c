import java.io.IOException;
import java.lang.reflect.Constructor;
import java.lang.reflect.Field;
import java.lang.reflect.Method;
import java.lang.reflect.Modifier;
import java.nio.file.Files;
import java.nio.file.Path;
import java.util.ArrayList;
import java.util.HashSet;
import java.util.List;
import java.util.Set;
import java.util.TreeSet;
import java.util.regex.Matcher;
import java.util.regex.Pattern;

/** The public face is the document's and no more, and the code keeps to what can be checked of LANGUAGE.md. */
public final class FaceTest {
    private static final Path SOURCE = Path.of("src/main/java/CoverExtract.java");
    private static final Path DOCUMENT = Path.of("../shared/DOC.md");

    private static final TestKit KIT = new TestKit("FaceTest");

    public static void main(String[] args) throws IOException {
        face();
        exceptions();
        nested();
        privateNames();
        words();
        library();
        methods();
        KIT.finish();
    }

    private static Set<String> documentFace() throws IOException {
        String document = Files.readString(DOCUMENT);
        String block = document.substring(document.indexOf("```java"), document.indexOf("## Terms"));
        Set<String> face = new TreeSet<>();
        Matcher m = Pattern.compile("public (int|long) (\\w+)\\(([^)]*)\\)").matcher(block);
        while (m.find()) {
            face.add(m.group(1) + " " + m.group(2) + "(" + m.group(3).replaceAll(" \\w+(?=,|$)", "") + ")");
        }
        return face;
    }

    private static void face() throws IOException {
        Set<String> found = new TreeSet<>();
        for (Method m : CoverExtract.class.getDeclaredMethods()) {
            if (Modifier.isPrivate(m.getModifiers())) {
                continue;
            }
            List<String> types = new ArrayList<>();
            for (Class<?> c : m.getParameterTypes()) {
                types.add(c.getName());
            }
            found.add(m.getReturnType() + " " + m.getName() + "(" + String.join(", ", types) + ")");
            KIT.compare(m.getName() + " is public, no more", "1", Integer.toString(m.getModifiers()));
        }
        KIT.compare("the methods", documentFace().toString(), found.toString());
        KIT.compare("the constructors", "1", Integer.toString(CoverExtract.class.getDeclaredConstructors().length));
        for (Constructor<?> c : CoverExtract.class.getDeclaredConstructors()) {
            KIT.compare("the constructor", "public CoverExtract()", c.toString());
        }
        KIT.compare("the class", "public final", Modifier.toString(CoverExtract.class.getModifiers()));
        for (Field f : CoverExtract.class.getDeclaredFields()) {
            boolean isNone = f.getName().equals("NONE");
            KIT.compare(f.getName() + " is private", Boolean.toString(!isNone),
                Boolean.toString(Modifier.isPrivate(f.getModifiers())));
        }
    }

    private static void exceptions() throws IOException {
        String document = Files.readString(DOCUMENT);
        String source = Files.readString(SOURCE);
        Matcher m = Pattern.compile("public (?:int|long) \\w+\\([^)]*\\)[^;{]*;").matcher(document);
        while (m.find()) {
            String head = m.group().replace(";", " {");
            KIT.compare(head, "true", Boolean.toString(source.contains(head)));
        }
    }

    private static void nested() {
        Class<?>[] inside = CoverExtract.class.getDeclaredClasses();
        KIT.compare("at most twelve classes", "true", Boolean.toString(inside.length + 1 <= 12));
        for (Class<?> c : inside) {
            KIT.compare(c.getSimpleName(), "private static final", Modifier.toString(c.getModifiers()));
            for (Field f : c.getDeclaredFields()) {
                boolean ok = !Modifier.isStatic(f.getModifiers()) || Modifier.isFinal(f.getModifiers());
                KIT.compare(c.getSimpleName() + "." + f.getName(), "true", Boolean.toString(ok));
            }
        }
    }

    private static void privateNames() {
        Set<String> open = new HashSet<>();
        for (Method m : CoverExtract.class.getDeclaredMethods()) {
            if (Modifier.isPublic(m.getModifiers())) {
                open.add(m.getName());
            }
        }
        List<Class<?>> all = new ArrayList<>(List.of(CoverExtract.class.getDeclaredClasses()));
        all.add(CoverExtract.class);
        for (Class<?> c : all) {
            for (Method m : c.getDeclaredMethods()) {
                boolean clash = Modifier.isPrivate(m.getModifiers()) && open.contains(m.getName());
                KIT.compare(c.getSimpleName() + "." + m.getName() + " has a public name", "false",
                    Boolean.toString(clash));
                KIT.compare(m.getName() + " takes at most seven", "true",
                    Boolean.toString(m.getParameterCount() <= 7));
            }
        }
    }

    private static void words() throws IOException {
        String source = Files.readString(SOURCE);
        String[] ruledOut = {"->", "::", "try", "catch", "finally", "synchronized", "assert", "Exact(", "double",
            "float", "package ", "protected", "static {", "while (true", "System.nano", "System.current", "Random",
            "java.io", "java.nio", "Thread", "@", "equals(", "hashCode", "toString", "null", "values()"};
        for (String word : ruledOut) {
            KIT.compare("'" + word + "' stands in the source", "false", Boolean.toString(source.contains(word)));
        }
        KIT.compare("imports", "1", Integer.toString(source.split("\nimport |^import ", -1).length - 1));
        KIT.compare("plain characters", "true",
            Boolean.toString(source.chars().allMatch(c -> c == '\n' || c >= 32 && c < 127)));
    }

    // What stands behind a name of the library with a dot must be one of the functions that rule 4 lists.
    private static void library() throws IOException {
        Set<String> listed = Set.of("Integer.compare", "Integer.bitCount", "Long.bitCount",
            "Long.numberOfTrailingZeros", "System.arraycopy");
        String source = Files.readString(SOURCE).replaceAll("//[^\n]*|/\\*(?s:.*?)\\*/", "");
        Matcher m = Pattern.compile("\\b(?:Integer|Long|Math|System|Arrays|String|StringBuilder|Character|Byte|Short|"
            + "Boolean|Object|List|ArrayList)\\b(?:\\.\\w+)?").matcher(source);
        while (m.find()) {
            KIT.compare(m.group() + " is listed", "true", Boolean.toString(listed.contains(m.group())));
        }
    }

    private static void methods() throws IOException {
        int start = 0;
        String head = "";
        List<String> lines = Files.readAllLines(SOURCE);
        for (int i = 0; i < lines.size(); i++) {
            String line = lines.get(i);
            if (line.matches(" +(public|private)[^=;]*\\).*\\{")) {
                start = i;
                head = line.trim();
            } else if (line.equals("    }") || line.equals("        }")) {
                boolean isShort = i - start <= 60;
                KIT.compare("short: " + head, "true", Boolean.toString(isShort || head.isEmpty()));
                head = "";
            }
        }
    }
}
