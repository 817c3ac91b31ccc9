import java.io.IOException;
import java.lang.reflect.Constructor;
import java.lang.reflect.Field;
import java.lang.reflect.Method;
import java.lang.reflect.Modifier;
import java.nio.charset.StandardCharsets;
import java.nio.file.Files;
import java.nio.file.Path;
import java.util.List;
import java.util.Set;
import java.util.TreeSet;
import java.util.regex.Matcher;
import java.util.regex.Pattern;

/** What of LANGUAGE.md can be seen by words and by reflection; run from the project's folder. */
public final class LanguageTest {
    private static final String[] FACE = {
        "int side(int,int,int)", "int salt(int,int)", "int flood(int,int,int)", "int gauge(int,int,int)",
        "int read(int,int)", "int lake(int,int,int,int,int)", "int release(int,int)", "int hold(int,int,int,int,int)",
        "int force(int,int,int)", "int holdTold(int,int)", "int takes(int,int,int)", "long all(int,int,int)",
        "int call(int,int)", "int helps(int)", "int feed(int,long)", "int text()", "int rule(int,int)",
        "long says(int,int,int)", "int told(int,int,int)", "int lakeTold(int,int,int)", "int sharp(int)",
        "long sum(int)", "long owed(int,int,int,int)", "int breaks(int,int,int)", "int found(int,int,int,int)",
        "int sold(int,int)", "long harm(int,int)", "long unlike(int,int,int,int)", "long held(int,int)",
        "int dry(int,int)", "int count(int)", "int sheet(int,int,int)", "int cell(int,int,int)",
        "int copy(int,int,int,int,int)", "int gauges(int,int,int,int,int,int)", "int taken(int,int)"};

    private final Check check = new Check("LanguageTest");

    public static void main(String[] args) throws IOException {
        LanguageTest test = new LanguageTest();
        String source = Files.readString(Path.of("src/main/java/RiverCompact.java"), StandardCharsets.UTF_8);
        test.face();
        test.insides(new TreeSet<>(test.faceNames()));
        test.words(source);
        test.sizes(source);
        test.check.end();
    }

    private Set<String> faceNames() {
        Set<String> names = new TreeSet<>();
        for (String call : FACE) {
            names.add(call.substring(call.indexOf(' ') + 1, call.indexOf('(')));
        }
        return names;
    }

    private void face() {
        check.part("rule 1");
        Class<?> type = RiverCompact.class;
        check.isTrue("public and final", type.getModifiers() == (Modifier.PUBLIC | Modifier.FINAL));
        Set<String> open = new TreeSet<>();
        for (Method method : type.getDeclaredMethods()) {
            if (!Modifier.isPrivate(method.getModifiers())) {
                StringBuilder words = new StringBuilder();
                for (Class<?> parameter : method.getParameterTypes()) {
                    words.append(words.length() == 0 ? "" : ",").append(parameter.getName());
                }
                open.add(method.getReturnType().getName() + " " + method.getName() + "(" + words + ")");
            }
        }
        check.isTrue("the calls are the face's: " + open, open.equals(new TreeSet<>(List.of(FACE))));
        Set<String> fields = new TreeSet<>();
        for (Field field : type.getDeclaredFields()) {
            if (!Modifier.isPrivate(field.getModifiers())) {
                fields.add(Modifier.toString(field.getModifiers()) + " " + field.getName());
            }
        }
        String constant = "public static final ";
        check.isTrue("the constants are the face's: " + fields, fields.equals(Set.of(constant + "NONE",
            constant + "BAD", constant + "STATE", constant + "FULL", constant + "NO")));
        String values = "";
        for (String name : List.of("NONE", "BAD", "STATE", "FULL", "NO")) {
            try {
                values += type.getField(name).get(null) + " ";
            } catch (ReflectiveOperationException e) {
                values += name + " is not to be had ";
            }
        }
        check.isTrue("what they are: " + values, values.equals("-1 -2 -3 -4 -4611686018427387904 "));
        Constructor<?>[] constructors = type.getDeclaredConstructors();
        check.isTrue("one constructor", constructors.length == 1 && Modifier.isPublic(constructors[0].getModifiers())
            && constructors[0].getParameterCount() == 0);
    }

    private void insides(Set<String> faceNames) {
        check.part("rules 1, 2, 5, 11");
        Class<?>[] types = RiverCompact.class.getDeclaredClasses();
        check.isTrue("some twelve classes", types.length < 12);
        for (Class<?> type : types) {
            check.isTrue(type + " is static", Modifier.isStatic(type.getModifiers()));
            for (Method method : type.getDeclaredMethods()) {
                check.isTrue("another name than " + method, !faceNames.contains(method.getName()));
            }
            membersOf(type);
        }
        for (Method method : RiverCompact.class.getDeclaredMethods()) {
            boolean isHidden = Modifier.isPrivate(method.getModifiers());
            check.isTrue("another name than " + method, !isHidden || !faceNames.contains(method.getName()));
        }
        membersOf(RiverCompact.class);
    }

    private void membersOf(Class<?> type) {
        int own = 0;
        for (Field field : type.getDeclaredFields()) {
            boolean isStatic = Modifier.isStatic(field.getModifiers());
            check.isTrue("final " + field, !isStatic || Modifier.isFinal(field.getModifiers()));
            own += isStatic ? 0 : 1;
        }
        check.isTrue("some twenty fields in " + type, own <= 20);
        for (Method method : type.getDeclaredMethods()) {
            check.isTrue("seven parameters of " + method, method.getParameterCount() <= 7);
        }
    }

    private void words(String source) {
        check.part("rules 2, 3, 4, 6, 10, 13");
        String code = source.replaceAll("(?s)/\\*.*?\\*/", " ").replaceAll("//[^\n]*", " ");
        code = code.replaceAll("\"[^\"\n]*\"", "\"\"").replaceAll("'(\\\\.|[^'])'", "' '");
        String[] never = {"throw", "throws", "try", "catch", "finally", "synchronized", "assert", "package", "protected",
            "native", "volatile", "yield", "System\\.out", "System\\.(?!arraycopy)", "Thread", "Object", "equals",
            "hashCode", "toString", "\\w+Exact", "->", "::", "@", "static \\{", "NaN"};
        for (String word : never) {
            String edged = word.matches("\\w+") ? "\\b" + word + "\\b" : word;
            check.isTrue("no " + word, !Pattern.compile(edged).matcher(code).find());
        }
        check.isTrue("one import", code.replaceAll("(?m)^import java\\.util\\.Arrays;$", "").indexOf("import") < 0);
        Matcher library = Pattern.compile("\\b(Arrays|Math|Integer|Long|System)\\.(\\w+)").matcher(code);
        Set<String> used = new TreeSet<>();
        while (library.find()) {
            used.add(library.group());
        }
        used.removeAll(Set.of("Arrays.fill", "Math.max", "Math.min", "Integer.bitCount", "System.arraycopy"));
        check.isTrue("no library but what is listed: " + used, used.isEmpty());
        for (int i = 0; i < source.length(); i++) {
            if (source.charAt(i) > 126) {
                check.due("a sign at " + i, source.charAt(i), 126);
            }
        }
    }

    /** A method starts at a line that ends with ") {" inside a class and ends where its brace stands again. */
    private void sizes(String source) {
        check.part("rule 11");
        String[] lines = source.split("\n");
        for (int i = 0; i < lines.length; i++) {
            Matcher start = Pattern.compile("^( {4}| {8})(public |private |static |int |long |void |boolean |[A-Z]).*").matcher(lines[i]);
            if (!start.matches() || lines[i].contains(" class ") || lines[i].endsWith(";")) {
                continue;
            }
            int end = i;
            while (end < lines.length && !lines[end].equals(start.group(1) + "}")) {
                end++;
            }
            check.isTrue("short: " + lines[i].trim() + " has " + (end - i + 1), end - i < 60);
        }
        for (String line : lines) {
            check.isTrue("a line of 120 at most: " + line, line.length() <= 120);
        }
    }
}
