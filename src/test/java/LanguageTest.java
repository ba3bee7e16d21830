import java.io.IOException;
import java.lang.reflect.Constructor;
import java.lang.reflect.Field;
import java.lang.reflect.Method;
import java.lang.reflect.Modifier;
import java.nio.file.Files;
import java.nio.file.Path;
import java.util.Arrays;
import java.util.Set;
import java.util.TreeSet;
import java.util.regex.Matcher;
import java.util.regex.Pattern;
import java.util.stream.Collectors;

/** The public face, the rules of LANGUAGE.md that can be seen from outside, and the room that calls take. */
public final class LanguageTest {
    private static final Check CHECK = new Check();
    private static final String FACE = "row/3 set/3 copy/5 drop/1 feed/1 way/0 fault/0 go/0 rule/2 give/2 undo/0 "
            + "walker/2 leg/1 mends/1 there/2 allThere/0 soonest/1 loses/1 fair/1 sacks/1 parties/1 turn/0 fits/5 "
            + "image/1 restore/1 kind/1 as/2 ask/2 trace/1 count/1 status/0";

    public static void main(String[] args) throws IOException {
        faceIsTheDocuments();
        classesKeepToTheRules();
        wordsAreAllowed(Files.readString(Path.of("src/main/java/LastRest.java")));
        callsMakeLittle();
        CHECK.end();
    }

    private static void right(String told, boolean is) {
        CHECK.due(told, is ? 1 : 0, 1);
    }

    private static void faceIsTheDocuments() {
        Set<String> face = new TreeSet<>();
        for (Method m : LastRest.class.getDeclaredMethods()) {
            if (!Modifier.isPrivate(m.getModifiers())) {
                face.add(m.getName() + "/" + m.getParameterCount());
                right(m.getName() + " is public", Modifier.isPublic(m.getModifiers()));
                right(m.getName() + " gives int", m.getReturnType() == int.class);
                right(m.getName() + " takes ints", Arrays.stream(m.getParameterTypes()).allMatch(t -> t == int.class));
            }
        }
        right("the methods of the face: " + face, face.equals(new TreeSet<>(Arrays.asList(FACE.split(" ")))));
        right("the class is public and final", LastRest.class.getModifiers() == (Modifier.PUBLIC | Modifier.FINAL));
        Constructor<?>[] constructors = LastRest.class.getDeclaredConstructors();
        right("one constructor", constructors.length == 1 && constructors[0].getParameterCount() == 0);
        right("it is public", Modifier.isPublic(constructors[0].getModifiers()));
        Set<String> constants = Arrays.stream(LastRest.class.getDeclaredFields())
                .filter(f -> !Modifier.isPrivate(f.getModifiers())).map(Field::getName)
                .collect(Collectors.toCollection(TreeSet::new));
        right("the constants: " + constants, constants.equals(Set.of("NONE", "BAD", "STATE", "FULL")));
        right("NONE", LastRest.NONE == -1000000);
        right("BAD", LastRest.BAD == -1000001);
        right("STATE", LastRest.STATE == -1000002);
        right("FULL", LastRest.FULL == -1000003);
    }

    private static void classesKeepToTheRules() {
        Set<String> face = Arrays.stream(FACE.split(" ")).map(s -> s.split("/")[0]).collect(Collectors.toSet());
        Class<?>[] inside = LastRest.class.getDeclaredClasses();
        right("at most twelve classes", inside.length <= 12);
        keepsToTheRules(LastRest.class, Set.of());
        for (Class<?> c : inside) {
            right(c.getName() + " is static", Modifier.isStatic(c.getModifiers()));
            right(c.getName() + " is not public", !Modifier.isPublic(c.getModifiers()));
            keepsToTheRules(c, face);
        }
        for (Method m : LastRest.class.getDeclaredMethods()) {
            boolean hidden = Modifier.isPrivate(m.getModifiers());
            right(m.getName() + " bears no name of the face", !hidden || !face.contains(m.getName()));
        }
    }

    private static void keepsToTheRules(Class<?> c, Set<String> namesTaken) {
        int fields = 0;
        for (Field f : c.getDeclaredFields()) {
            boolean isStatic = Modifier.isStatic(f.getModifiers());
            fields += isStatic ? 0 : 1;
            right(c.getName() + "." + f.getName() + " is final", !isStatic || Modifier.isFinal(f.getModifiers()));
        }
        right(c.getName() + " has at most twenty fields", fields <= 20);
        for (Method m : c.getDeclaredMethods()) {
            right(m + " takes at most seven", m.getParameterCount() <= 7);
            right(m + " bears no name of the face", !namesTaken.contains(m.getName()));
        }
    }

    private static void wordsAreAllowed(String source) {
        String code = source.replaceAll("(?s)/\\*.*?\\*/", "").replaceAll("//[^\n]*", "");
        String words = "throw|throws|try|catch|finally|synchronized|assert|import|package|native|volatile|var|"
                + "Object|Thread|Random|Exact|MAX_VALUE|MIN_VALUE|double|float";
        Matcher word = Pattern.compile("\\b(" + words + ")\\b|->|::|[^\\x00-\\x7f]").matcher(code);
        while (word.find()) {
            right("the program has " + word.group(), false);
        }
        Matcher library = Pattern.compile("\\b(System|Math|Integer|Long|Arrays|String)\\.(\\w+)").matcher(code);
        while (library.find()) {
            right(library.group() + " is listed", Set.of("System.arraycopy", "Math.max", "Math.min").contains(library.group()));
        }
        int start = 0, at = 0;
        for (String line : source.split("\n")) {
            at++;
            if (line.matches(" {4}( {4})?(public|private) [^=;]*\\) \\{")) {
                start = at;
            }
            if (line.matches(" {4}( {4})?\\}") && start > 0) {
                right("the method at line " + start + " is short", at - start <= 60);
                start = 0;
            }
        }
    }

    /** Allocation is read from the machine: a search that made objects anew would take megabytes here. */
    private static void callsMakeLittle() {
        com.sun.management.ThreadMXBean threads =
                (com.sun.management.ThreadMXBean) java.lang.management.ManagementFactory.getThreadMXBean();
        dearCalls(new LastRest());
        long before = threads.getCurrentThreadAllocatedBytes();
        LastRest x = new LastRest();
        dearCalls(x);
        long bytes = threads.getCurrentThreadAllocatedBytes() - before;
        System.out.println("an object and its dearest calls took " + bytes + " bytes");
        right("calls make little", bytes < 100000);
    }

    private static void dearCalls(LastRest x) {
        String text = "w9,9,9,9,9,9,9,9;r2,5,999;s1,1;q2,2;p3,3;o4,4;l5,5;s6,6;";
        for (int i = 0; i < text.length(); i++) {
            x.feed(text.charAt(i));
        }
        x.way();
        x.row(0, 2, 8);
        for (int i = 0; i < 60; i++) {
            x.sacks(-1);
            x.soonest(0);
            x.fair(0);
            x.parties(0);
            x.turn();
            x.fits(0, 0, 0, 1, 0);
            x.rule(1, i % 31);
        }
    }
}
