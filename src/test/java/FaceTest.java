import java.io.IOException;
import java.lang.reflect.Constructor;
import java.lang.reflect.Field;
import java.lang.reflect.Method;
import java.lang.reflect.Modifier;
import java.nio.file.Files;
import java.nio.file.Path;
import java.util.Set;
import java.util.TreeSet;
import java.util.regex.Matcher;
import java.util.regex.Pattern;

/** The public face of the class, and what of ../shared/LANGUAGE.md can be seen in its source. */
public final class FaceTest {
    private static final String FACE = "write(int,long):int wipe():int fault():int tower():int about(int):int floor(int,int):int "
        + "record(int,int):int cites(int,int):int effort(int):int carry(int,int):int together(int):int decade():int "
        + "anew(int,int):int undo():int most(int):int least(int):int planAt(int,int):int atHand():int index(int,int):int "
        + "lookUp(int):int lies(boolean):int mend():int dive(int,int):int dry(int,int,int,boolean):long keep(int):int again(int):int";
    private static final String BANNED = "throw throws try catch finally synchronized assert import package lambda instanceof "
        + "String Object Thread Random Exception Error double float native volatile transient strictfp protected";
    private static final Check CHECK = new Check("FaceTest");

    public static void main(String[] args) throws IOException {
        members();
        constants();
        String source = Files.readString(Path.of("src/main/java/SinkingArchive.java"));
        String code = source.replaceAll("/\\*[\\s\\S]*?\\*/", "").replaceAll("//[^\\n]*", "");
        words(code);
        methods(code);
        CHECK.finish();
    }

    private static void members() {
        Set<String> face = new TreeSet<>(Set.of(FACE.split(" ")));
        Set<String> publicNames = new TreeSet<>();
        for (String call : face) {
            publicNames.add(call.substring(0, call.indexOf('(')));
        }
        Set<String> found = new TreeSet<>();
        for (Method m : SinkingArchive.class.getDeclaredMethods()) {
            StringBuilder told = new StringBuilder(m.getName()).append('(');
            for (Class<?> c : m.getParameterTypes()) {
                told.append(told.charAt(told.length() - 1) == '(' ? "" : ",").append(c.getName());
            }
            told.append("):").append(m.getReturnType().getName());
            boolean isPublic = Modifier.isPublic(m.getModifiers()) && !Modifier.isStatic(m.getModifiers());
            if (isPublic) {
                found.add(told.toString());
            } else {
                CHECK.yes(m + " is private", Modifier.isPrivate(m.getModifiers()));
                CHECK.yes(m + " has a name of its own", !publicNames.contains(m.getName()));
            }
        }
        CHECK.yes("the calls are " + face + ", found are " + found, found.equals(face));
        Constructor<?>[] made = SinkingArchive.class.getDeclaredConstructors();
        CHECK.yes("one public constructor", made.length == 1 && made[0].getParameterCount() == 0 && Modifier.isPublic(made[0].getModifiers()));
        CHECK.yes("public and final", Modifier.isPublic(SinkingArchive.class.getModifiers()) && Modifier.isFinal(SinkingArchive.class.getModifiers()));
        Class<?>[] inside = SinkingArchive.class.getDeclaredClasses();
        CHECK.yes("some twelve classes", inside.length < 12);
        for (Class<?> c : inside) {
            CHECK.yes(c + " is static and not public", Modifier.isStatic(c.getModifiers()) && !Modifier.isPublic(c.getModifiers()));
        }
    }

    private static void constants() {
        CHECK.due("UNKNOWN", SinkingArchive.UNKNOWN, -1);
        CHECK.due("BAD", SinkingArchive.BAD, -2);
        CHECK.due("LATE", SinkingArchive.LATE, -3);
        CHECK.due("FULL", SinkingArchive.FULL, -4);
        CHECK.due("NONE", SinkingArchive.NONE, -9);
        Set<String> names = new TreeSet<>();
        for (Field f : SinkingArchive.class.getDeclaredFields()) {
            if (!Modifier.isPrivate(f.getModifiers())) {
                names.add(f.getName());
            }
            CHECK.yes(f + " is final if it is static", !Modifier.isStatic(f.getModifiers()) || Modifier.isFinal(f.getModifiers()));
        }
        CHECK.yes("no more constants: " + names, names.equals(Set.of("UNKNOWN", "BAD", "LATE", "FULL", "NONE")));
    }

    private static void words(String code) {
        for (String word : BANNED.split(" ")) {
            CHECK.yes("no " + word, !Pattern.compile("\\b" + word + "\\b").matcher(code).find());
        }
        CHECK.yes("no lambda, no method reference", !code.contains("->") && !code.contains("::"));
        Matcher library = Pattern.compile("\\b(System|Math|Integer|Long|Arrays)\\.(\\w+)").matcher(code);
        while (library.find()) {
            CHECK.yes(library.group() + " is of the library", Set.of("System.arraycopy", "Math.max", "Math.min", "Integer.bitCount").contains(library.group()));
        }
    }

    private static void methods(String code) {
        Matcher head = Pattern.compile("(?m)^( +)(?:(?:public|private|static|final) )*[\\w\\[\\]]+ (\\w+)\\(([^)]*)\\) \\{$").matcher(code);
        int seen = 0;
        while (head.find()) {
            int end = code.indexOf("\n" + head.group(1) + "}", head.end());
            long lines = code.substring(head.start(), end).lines().count();
            CHECK.yes(head.group(2) + " is short: " + lines, lines <= 60);
            CHECK.yes(head.group(2) + " takes seven at most", head.group(3).split(",").length <= 7);
            seen++;
        }
        CHECK.yes("methods were seen", seen > 60);
    }
}
