import java.io.IOException;
import java.lang.management.ManagementFactory;
import java.lang.reflect.Constructor;
import java.lang.reflect.Field;
import java.lang.reflect.Method;
import java.lang.reflect.Modifier;
import java.nio.file.Files;
import java.nio.file.Path;
import java.util.ArrayList;
import java.util.Collections;
import java.util.List;

/** The class has the document's face and nothing else that is not private, and keeps out of its source what LANGUAGE.md rules out. */
public final class FaceTests {
    private static final List<String> FACE = List.of(
        "PrintRoom()",
        "account(int)", "cancel(int)", "clearText()", "count(int)", "emptyBin()", "enter()", "fault(int)",
        "fill(int,int)", "hold(int,int)", "job(int,int,int,int,int)", "jobInfo(int,int)", "lacking(int,int)",
        "load(int,int,int)", "paper(int,int)", "priority(int,int)", "queued(int)", "refusal()", "run(int)",
        "set(int,int)", "staples(int)", "stop()", "ticksTo(int)", "tray(int,int)", "type(int)", "undo()",
        "INVALID_ARGUMENT=-1", "LIMIT_REACHED=-3", "NOT_FOUND=-4", "NOT_POSSIBLE=-2");

    private static final List<String> RULED_OUT = List.of("\\bthrow\\b", "\\btry\\b", "\\bcatch\\b", "\\bassert\\b",
        "\\bsynchronized\\b", "->", "::", "\\bimport\\b", "\\bpackage\\b", "Exact\\b", "\\bsuper\\b");

    private static final Checks CHECKS = new Checks();

    private FaceTests() {
    }

    public static void main(String[] args) throws IOException, IllegalAccessException {
        compareFaces();
        lookAtClassesInside();
        lookAtNames();
        lookAtSource();
        callsMakeNoObjects();
        CHECKS.end("FaceTests");
    }

    private static void compareFaces() throws IllegalAccessException {
        List<String> found = new ArrayList<>();
        for (Constructor<?> made : PrintRoom.class.getDeclaredConstructors()) {
            CHECKS.holds(made + " is public", made.getModifiers() == Modifier.PUBLIC);
            found.add("PrintRoom" + parameters(made.getParameterTypes()));
        }
        for (Method method : PrintRoom.class.getDeclaredMethods()) {
            if (!Modifier.isPrivate(method.getModifiers())) {
                CHECKS.holds(method + " is public", method.getModifiers() == Modifier.PUBLIC);
                CHECKS.holds(method + " answers an int", method.getReturnType() == int.class);
                found.add(method.getName() + parameters(method.getParameterTypes()));
            }
        }
        for (Field field : PrintRoom.class.getDeclaredFields()) {
            if (!Modifier.isPrivate(field.getModifiers())) {
                int constant = Modifier.PUBLIC | Modifier.STATIC | Modifier.FINAL;
                CHECKS.holds(field + " is a constant", field.getModifiers() == constant);
                found.add(field.getName() + "=" + field.getInt(null));
            }
        }
        List<String> due = new ArrayList<>(FACE);
        Collections.sort(due);
        Collections.sort(found);
        CHECKS.holds("the face " + found + " is " + due, found.equals(due));
        CHECKS.holds("PrintRoom is public and final",
            PrintRoom.class.getModifiers() == (Modifier.PUBLIC | Modifier.FINAL));
    }

    private static String parameters(Class<?>[] types) {
        List<String> names = new ArrayList<>();
        for (Class<?> type : types) {
            names.add(type.getName());
        }
        return "(" + String.join(",", names) + ")";
    }

    private static void lookAtClassesInside() {
        Class<?>[] inside = PrintRoom.class.getDeclaredClasses();
        CHECKS.holds("at most 12 classes", inside.length <= 11);
        for (Class<?> one : inside) {
            CHECKS.holds(one + " is static", Modifier.isStatic(one.getModifiers()));
            CHECKS.holds(one + " is not public", !Modifier.isPublic(one.getModifiers()));
            int fields = 0;
            for (Field field : one.getDeclaredFields()) {
                boolean isStatic = Modifier.isStatic(field.getModifiers());
                CHECKS.holds(field + " is final if static", !isStatic || Modifier.isFinal(field.getModifiers()));
                fields += isStatic ? 0 : 1;
            }
            CHECKS.holds(one + " has at most 20 fields", fields <= 20);
        }
    }

    private static void lookAtNames() {
        List<Class<?>> all = new ArrayList<>(List.of(PrintRoom.class.getDeclaredClasses()));
        all.add(PrintRoom.class);
        for (Class<?> one : all) {
            for (Method method : one.getDeclaredMethods()) {
                boolean isPublic = Modifier.isPublic(method.getModifiers());
                boolean isOfFace = FACE.stream().anyMatch(face -> face.startsWith(method.getName() + "("));
                CHECKS.holds(method + " has a name of its own", isPublic || !isOfFace);
                CHECKS.holds(method + " has at most seven parameters", method.getParameterCount() <= 7);
            }
        }
    }

    private static void lookAtSource() throws IOException {
        String source = Files.readString(Path.of("src/main/java/PrintRoom.java"));
        CHECKS.holds("the source's signs are 1 to 127", source.chars().allMatch(sign -> sign >= 1 && sign <= 127));
        lookAtLengths(source);
        String code = source.replaceAll("(?s)/\\*.*?\\*/", "").replaceAll("//[^\n]*", "");
        for (String sign : RULED_OUT) {
            boolean stands = java.util.regex.Pattern.compile(sign).matcher(code).find();
            CHECKS.holds("the source is without " + sign, !stands);
        }
    }

    /** A method begins and ends with the same indent, and its lines between them have a greater one. */
    private static void lookAtLengths(String source) {
        String indent = null;
        int lines = 0;
        for (String line : source.split("\n")) {
            lines++;
            if (indent == null && line.matches(" +[^=;/*]+\\(.*\\) \\{")) {
                indent = line.replaceAll("[^ ].*", "");
                lines = 1;
            } else if (indent != null && line.equals(indent + "}")) {
                CHECKS.holds("at most 60 lines up to the method's end", lines <= 60);
                indent = null;
            }
        }
        CHECKS.holds("the last method has an end", indent == null);
    }

    /** What a run makes is counted: all of it is made by the constructor. */
    private static void callsMakeNoObjects() {
        useAll(new PrintRoom());
        PrintRoom room = new PrintRoom();
        com.sun.management.ThreadMXBean thread = (com.sun.management.ThreadMXBean) ManagementFactory.getThreadMXBean();
        long before = thread.getCurrentThreadAllocatedBytes();
        useAll(room);
        long made = thread.getCurrentThreadAllocatedBytes() - before;
        CHECKS.holds("a run's calls make no objects: " + made + " bytes", made < 2000);
    }

    /** Some 500 calls, the dearest ones among them; none of the test's own makes an object. */
    private static void useAll(PrintRoom room) {
        room.fill(0, 500);
        for (int i = 0; i < 15; i++) {
            room.type("1p 1c A4 plain;".charAt(i));
        }
        for (int i = 0; i < 20; i++) {
            room.set(i % 3, 1);
            room.job(5, 2, 1, 0, i % 12);
            room.fault(0);
            room.enter();
            room.run(20);
            room.stop();
            room.ticksTo(i);
            room.hold(i, 1);
            room.priority(i, 3);
            room.queued(i);
            room.lacking(1, 0);
            room.staples(i);
            room.load(1, i % 4, 1);
            room.tray(0, 3);
            room.emptyBin();
            room.cancel(i);
            room.undo();
            room.refusal();
            room.jobInfo(i, 11);
            room.count(i);
            room.account(i);
            room.paper(0, 2);
        }
        room.clearText();
    }
}
