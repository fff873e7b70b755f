import java.io.IOException;
import java.lang.reflect.Constructor;
import java.lang.reflect.Field;
import java.lang.reflect.Method;
import java.lang.reflect.Modifier;
import java.nio.file.Files;
import java.nio.file.Path;
import java.util.Arrays;
import java.util.HashSet;
import java.util.Set;
import java.util.TreeSet;
import java.util.regex.Matcher;
import java.util.regex.Pattern;

/** The public face, and those rules of LANGUAGE.md that can be seen from outside or in the text. */
public final class FaceTest {
    private static final Check CHECK = new Check("FaceTest");
    private static final String[] FACE = {
        "int begin(int)", "int pack()", "int ranked(int)", "int told(int,int,int)", "int card(int,int)",
        "int packTold(int,int)", "int move(int)", "int perfect(int)", "int deal(int)", "int riffle(int)",
        "int top()", "int behind(int,int)", "int back(int)", "int moves(int,int)", "int shuffleTold(int,int)",
        "int power(int,long,int)", "int does(int,int)", "int lots(int,int,long)", "long draw(int,int)",
        "int seed(int)", "long chance(int,int,int,int)", "long place(int,int,int,int)", "long far(int,int,int)",
        "long unlike(int,int,int)", "long runs(int)", "int leads(int,int)", "int lead(int,int,int)",
        "int group()", "int act(int,int,int)", "int trace(int)", "int count(int)", "int tray(int,int,int)",
        "int cell(int,int,int)", "int copy(int,int,int,int,int)", "int taken(int,int)",
    };
    private static final String[] REFUSED = {
        "\\bthrow\\b", "\\bthrows\\b", "\\btry\\b", "\\bcatch\\b", "\\bsynchronized\\b", "\\bassert\\b", "->", "::",
        "\\bimport\\b", "\\bpackage\\b", "Exact\\b", "\\bprotected\\b", "\\bstatic\\s*\\{", "\\bSystem\\.(?!arraycopy)",
        "\\bMath\\.random\\b", "\\bThread\\b", "\\bObject\\b", "\\bhashCode\\b", "\\bequals\\b", "\\btoString\\b",
    };

    public static void main(String[] args) throws IOException {
        members();
        constants();
        nestedClasses();
        text(args.length > 0 ? args[0] : "src/main/java/ShuffleDesk.java");
        CHECK.end();
    }

    private static void truth(String what, boolean holds) {
        CHECK.due(what, holds ? 1 : 0, 1);
    }

    private static String signature(Method m) {
        StringBuilder text = new StringBuilder(m.getReturnType().getName() + " " + m.getName() + "(");
        for (int i = 0; i < m.getParameterCount(); i++) {
            text.append(i == 0 ? "" : ",").append(m.getParameterTypes()[i].getName());
        }
        return text + ")";
    }

    private static void members() {
        Class<?> desk = ShuffleDesk.class;
        truth("public and final", (desk.getModifiers() & (Modifier.PUBLIC | Modifier.FINAL)) == (Modifier.PUBLIC | Modifier.FINAL));
        Set<String> open = new TreeSet<>();
        Set<String> openNames = new HashSet<>();
        for (Method m : desk.getDeclaredMethods()) {
            if (Modifier.isPublic(m.getModifiers())) {
                open.add(signature(m));
                openNames.add(m.getName());
                truth(m + " is not static", !Modifier.isStatic(m.getModifiers()));
            }
        }
        Set<String> due = new TreeSet<>(Arrays.asList(FACE));
        truth("public methods " + open + ", due " + due, open.equals(due));
        for (Method m : desk.getDeclaredMethods()) {
            boolean hidden = Modifier.isPrivate(m.getModifiers());
            truth(m + " is public or private", hidden || Modifier.isPublic(m.getModifiers()));
            truth(m + " has a name of its own", !hidden || !openNames.contains(m.getName()));
        }
        Constructor<?>[] made = desk.getDeclaredConstructors();
        truth("one constructor", made.length == 1 && Modifier.isPublic(made[0].getModifiers()) && made[0].getParameterCount() == 0);
    }

    private static void constants() {
        Set<String> open = new TreeSet<>();
        for (Field f : ShuffleDesk.class.getDeclaredFields()) {
            int is = f.getModifiers();
            if (Modifier.isPublic(is)) {
                open.add(f.getName());
                truth(f + " is a constant", Modifier.isStatic(is) && Modifier.isFinal(is));
            } else {
                truth(f + " is private", Modifier.isPrivate(is));
            }
            truth(f + " is no static state", !Modifier.isStatic(is) || Modifier.isFinal(is));
        }
        truth("public constants " + open, open.equals(new TreeSet<>(Arrays.asList("NONE", "BAD", "STATE", "FULL", "NO"))));
        CHECK.due("NONE", ShuffleDesk.NONE, -1);
        CHECK.due("BAD", ShuffleDesk.BAD, -2);
        CHECK.due("STATE", ShuffleDesk.STATE, -3);
        CHECK.due("FULL", ShuffleDesk.FULL, -4);
        CHECK.due("NO", ShuffleDesk.NO, -4611686018427387904L);
    }

    private static void nestedClasses() {
        Class<?>[] nested = ShuffleDesk.class.getDeclaredClasses();
        truth("at most twelve classes", nested.length < 12);
        for (Class<?> each : nested) {
            int is = each.getModifiers();
            truth(each + " is static and not public", Modifier.isStatic(is) && !Modifier.isPublic(is) && !Modifier.isProtected(is));
            for (Field f : each.getDeclaredFields()) {
                truth(f + " is no static state", !Modifier.isStatic(f.getModifiers()));
            }
            for (Method m : each.getDeclaredMethods()) {
                truth(m + " has at most seven parameters", m.getParameterCount() <= 7);
            }
        }
    }

    private static void text(String file) throws IOException {
        String text = Files.readString(Path.of(file));
        String code = text.replaceAll("(?s)/\\*.*?\\*/", "").replaceAll("//[^\n]*", "");
        for (String word : REFUSED) {
            Matcher found = Pattern.compile(word).matcher(code);
            truth("no " + word + " in the file", !found.find());
        }
        truth("characters 0 to 255 alone", text.chars().allMatch(c -> c < 256));
        methodLengths(code);
    }

    /** A method ends with the brace that stands as far in as its first line. */
    private static void methodLengths(String code) {
        String[] lines = code.split("\n");
        Pattern head = Pattern.compile("^( {4}| {8})(?!class|for|if|while|switch|return|private static final class)\\w.*\\) \\{$");
        for (int i = 0; i < lines.length; i++) {
            Matcher begin = head.matcher(lines[i]);
            if (begin.matches()) {
                int end = i;
                while (end < lines.length && !lines[end].equals(begin.group(1) + "}")) {
                    end++;
                }
                truth(lines[i].trim() + " has at most sixty lines", end - i < 60);
            }
        }
    }
}
