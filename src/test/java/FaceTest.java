import java.lang.reflect.Constructor;
import java.lang.reflect.Field;
import java.lang.reflect.Method;
import java.lang.reflect.Modifier;
import java.nio.file.Files;
import java.nio.file.Path;
import java.util.Arrays;
import java.util.Set;
import java.util.TreeSet;
import java.util.regex.Matcher;
import java.util.regex.Pattern;

/** The public face of the document, and those rules of LANGUAGE.md that can be seen without reading the code's sense. */
public final class FaceTest {
    private static final Due due = new Due("FaceTest");
    private static final String SOURCE = "src/main/java/FloodBus.java";

    private static final String[] METHODS = {
        "int append(int)", "int clearBuffer()", "int errorPosition()", "int loadNetwork()", "int setTransmissionLimit(int)",
        "int setCaptureMargin(int)", "int setSlotLimit(int)", "int setTakeoverLimit(int)", "int setAlive(int,boolean)",
        "int flood(int)", "int packetAt(int)", "int hopCount(int)", "int floodLength()", "int addStream(int,int,int)",
        "int removeStream(int)", "int waitingPackets(int)", "int deliveredPackets(int)", "int lostPackets(int)",
        "int runRounds(int)", "int scheduledStream(int)", "int scheduleBits()", "int host()", "int missedSchedules(int)",
        "int transmissions(int)", "int roundNumber()", "long digest()"};

    private static final String[] CONSTANTS = {
        "NONE", "INVALID_INDEX", "INVALID_VALUE", "INVALID_STATE", "CAPACITY_EXCEEDED"};

    public static void main(String[] args) throws Exception {
        theConstants();
        theMethods();
        theConstructor();
        theClassesInside();
        theSource();
        theDocument();
        due.end();
    }

    /** The lists of this test are copies; here they are held against the document's own lines. */
    private static void theDocument() throws Exception {
        String document = Document.text("FaceTest");
        if (document.isEmpty()) {
            return;
        }
        Set<String> methods = new TreeSet<>();
        Matcher method = Pattern.compile("(?m)^    public (\\w+) (\\w+)\\(([^)]*)\\);$").matcher(document);
        while (method.find()) {
            methods.add(method.group(1) + " " + method.group(2) + "(" + method.group(3).replaceAll(" \\w+(, |$)", "$1").replace(", ", ",") + ")");
        }
        due.isTrue("methods in the document: " + methods, methods.equals(new TreeSet<>(Arrays.asList(METHODS))));
        constantsOf(document, "(?m)^    public static final int (\\w+) = (-?\\d+);$");
        constantsOf(document, "(?m)^- `(\\w+) = (-?\\d+)`: ");
    }

    private static void constantsOf(String document, String line) throws Exception {
        Set<String> constants = new TreeSet<>();
        Matcher constant = Pattern.compile(line).matcher(document);
        while (constant.find()) {
            constants.add(constant.group(1));
            due.is(constant.group(1), FloodBus.class.getField(constant.group(1)).getInt(null), Long.parseLong(constant.group(2)));
        }
        due.isTrue("constants in the document: " + constants, constants.equals(new TreeSet<>(Arrays.asList(CONSTANTS))));
    }

    private static void theConstants() {
        due.is("NONE", FloodBus.NONE, -1);
        due.is("INVALID_INDEX", FloodBus.INVALID_INDEX, -1001);
        due.is("INVALID_VALUE", FloodBus.INVALID_VALUE, -1002);
        due.is("INVALID_STATE", FloodBus.INVALID_STATE, -1003);
        due.is("CAPACITY_EXCEEDED", FloodBus.CAPACITY_EXCEEDED, -1004);
        Set<String> open = new TreeSet<>();
        for (Field field : FloodBus.class.getDeclaredFields()) {
            if (!Modifier.isPrivate(field.getModifiers())) {
                due.is("modifiers of " + field.getName(), field.getModifiers(), Modifier.PUBLIC | Modifier.STATIC | Modifier.FINAL);
                due.isTrue("type of " + field.getName() + " is int", field.getType() == int.class);
                open.add(field.getName());
            }
        }
        due.isTrue("constants of the face: " + open, open.equals(new TreeSet<>(Arrays.asList(CONSTANTS))));
    }

    private static void theMethods() {
        Set<String> open = new TreeSet<>();
        Set<String> openNames = new TreeSet<>();
        for (Method method : FloodBus.class.getDeclaredMethods()) {
            if (!Modifier.isPrivate(method.getModifiers())) {
                due.is("modifiers of " + method.getName(), method.getModifiers(), Modifier.PUBLIC);
                open.add(signature(method));
                openNames.add(method.getName());
            }
        }
        due.isTrue("methods of the face: " + open, open.equals(new TreeSet<>(Arrays.asList(METHODS))));
        for (Class<?> inside : FloodBus.class.getDeclaredClasses()) {
            for (Method method : inside.getDeclaredMethods()) {
                due.isTrue(inside.getName() + "." + method.getName() + " bears no public name", !openNames.contains(method.getName()));
            }
        }
    }

    private static String signature(Method method) {
        StringBuilder text = new StringBuilder();
        for (Class<?> type : method.getParameterTypes()) {
            text.append(text.length() == 0 ? "" : ",").append(type.getSimpleName());
        }
        return method.getReturnType().getSimpleName() + " " + method.getName() + "(" + text + ")";
    }

    private static void theConstructor() {
        Constructor<?>[] all = FloodBus.class.getDeclaredConstructors();
        due.is("number of constructors", all.length, 1);
        due.is("parameters of the constructor", all[0].getParameterCount(), 0);
        due.is("modifiers of the constructor", all[0].getModifiers(), Modifier.PUBLIC);
        due.is("modifiers of the class", FloodBus.class.getModifiers(), Modifier.PUBLIC | Modifier.FINAL);
    }

    private static void theClassesInside() {
        Class<?>[] inside = FloodBus.class.getDeclaredClasses();
        due.isTrue("at most twelve classes", inside.length + 1 <= 12);
        for (Class<?> type : inside) {
            due.isTrue(type.getName() + " is static", Modifier.isStatic(type.getModifiers()));
            due.isTrue(type.getName() + " is not public or protected",
                !Modifier.isPublic(type.getModifiers()) && !Modifier.isProtected(type.getModifiers()));
            for (Field field : type.getDeclaredFields()) {
                due.isTrue(field.getName() + " is final if static",
                    !Modifier.isStatic(field.getModifiers()) || Modifier.isFinal(field.getModifiers()));
            }
        }
    }

    private static void theSource() throws Exception {
        String source = Files.readString(Path.of(SOURCE));
        String code = source.replaceAll("(?s)/\\*.*?\\*/", " ").replaceAll("//[^\n]*", " ");
        String[] ruledOut = {"\\bthrow\\b", "\\bthrows\\b", "\\btry\\b", "\\bcatch\\b", "\\bsynchronized\\b", "\\bassert\\b",
            "->", "::", "\\bExact\\b", "\\w+Exact\\b", "\\bpackage\\b", "\\bSystem\\.(?!arraycopy)", "\\bRandom\\b", "\\bThread\\b",
            "\\bObject\\b", "\\bHashMap\\b", "static\\s*\\{", "\\bprotected\\b", "\\bvar\\b"};
        for (String word : ruledOut) {
            due.isTrue("the source is without " + word, !Pattern.compile(word).matcher(code).find());
        }
        Matcher imports = Pattern.compile("\\bimport\\s+([\\w.*]+)").matcher(code);
        while (imports.find()) {
            due.isTrue("import of " + imports.group(1), Set.of("java.util.Arrays", "java.util.ArrayList", "java.util.List").contains(imports.group(1)));
        }
        due.isTrue("the source is plain ASCII", source.chars().allMatch(ch -> ch < 128));
    }
}
