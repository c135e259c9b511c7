import java.io.IOException;
import java.lang.reflect.Constructor;
import java.lang.reflect.Field;
import java.lang.reflect.Method;
import java.lang.reflect.Modifier;
import java.nio.file.Files;
import java.nio.file.Path;
import java.util.Set;
import java.util.TreeSet;
import java.util.regex.Matcher;
import java.util.regex.Pattern;

/** The face is the document's and nothing more, and the source keeps to what of LANGUAGE.md can be seen in its words. */
public final class FaceTest {
    private static final String FACE = "letter/1 beam/0 arm/2 joint/1 step/3 fix/2 unfix/2 pass/1 may/2 blocked/0 by/1 "
        + "closedIn/1 way/2 come/1 last/3 handing/2 without/3 falls/1 row/1 stood/1 back/0 judge/0 clear/0 rest/1 "
        + "seeds/2 image/0 on/0 count/1";
    private static int wrong = 0;

    private static void must(boolean holds, String what) {
        if (!holds) {
            wrong++;
            System.out.println("face: " + what);
        }
    }

    private static void face() {
        Set<String> want = new TreeSet<>(Set.of(FACE.split(" ")));
        Set<String> names = new TreeSet<>();
        Set<String> have = new TreeSet<>();
        want.forEach(each -> names.add(each.substring(0, each.indexOf('/'))));
        for (Method m : ArmsAlongBeam.class.getDeclaredMethods()) {
            if (Modifier.isPublic(m.getModifiers())) {
                have.add(m.getName() + "/" + m.getParameterCount());
                must(m.getReturnType() == int.class && !Modifier.isStatic(m.getModifiers()), m + " has another form");
                for (Class<?> type : m.getParameterTypes()) {
                    must(type == int.class, m + " has another form");
                }
            } else {
                must(Modifier.isPrivate(m.getModifiers()) || m.isSynthetic(), m + " is not private");
                must(!names.contains(m.getName()), m + " bears the name of a public one");
            }
        }
        must(have.equals(want), "it is " + have);
        for (Field f : ArmsAlongBeam.class.getDeclaredFields()) {
            must(Modifier.isPrivate(f.getModifiers()), f + " is not private");
            must(!Modifier.isStatic(f.getModifiers()) || Modifier.isFinal(f.getModifiers()), f + " is static, not final");
        }
        Constructor<?>[] made = ArmsAlongBeam.class.getDeclaredConstructors();
        must(made.length == 1 && Modifier.isPublic(made[0].getModifiers()) && made[0].getParameterCount() == 0, "constructor");
        must(Modifier.isFinal(ArmsAlongBeam.class.getModifiers()), "the class is not final");
        for (Class<?> inside : ArmsAlongBeam.class.getDeclaredClasses()) {
            must(Modifier.isStatic(inside.getModifiers()) && !Modifier.isPublic(inside.getModifiers()), inside + " is not static");
            for (Method m : inside.getDeclaredMethods()) {
                must(!names.contains(m.getName()), m + " bears the name of a public one");
            }
        }
    }

    private static void words() throws IOException {
        String source = Files.readString(Path.of("src/main/java/ArmsAlongBeam.java"));
        String bare = source.replaceAll("(?s)/\\*.*?\\*/", "").replaceAll("//[^\n]*", "").replaceAll("'.'", "' '");
        String[] ruledOut = {"\\bthrows?\\b", "\\btry\\b", "\\bcatch\\b", "\\bsynchronized\\b", "\\bassert\\b", "\\bimport\\b",
            "\\bpackage\\b", "->", "::", "\\bprotected\\b", "\\binstanceof\\b", "\\bfloat\\b", "\\bdouble\\b", "Exact\\b",
            "\\bSystem\\b", "\"", "\\bstatic\\s*\\{", "\\bequals\\b", "\\bhashCode\\b", "\\btoString\\b"};
        for (String each : ruledOut) {
            must(!Pattern.compile(each).matcher(bare).find(), "the source has " + each);
        }
        Matcher library = Pattern.compile("\\b(Math|Integer|Long)\\.(\\w+)").matcher(bare);
        Set<String> used = new TreeSet<>();
        while (library.find()) {
            used.add(library.group());
        }
        must(Set.of("Math.abs", "Math.min", "Integer.bitCount").containsAll(used), "the library used is " + used);
        must(source.chars().allMatch(c -> c < 127), "the source has a sign that is not plain");
    }

    private static void lengths() throws IOException {
        int begin = -1;
        int at = 0;
        for (String line : Files.readAllLines(Path.of("src/main/java/ArmsAlongBeam.java"))) {
            at++;
            if (line.matches("\\s+(private |public |static )*(int|boolean|void) \\w+\\(.*\\{")) {
                begin = at;
                must(line.chars().filter(c -> c == ',').count() < 7, "too many parameters in line " + at);
            }
            if (line.isBlank() && begin > 0) {
                must(at - begin <= 60, "the method in line " + begin + " is long");
                begin = -1;
            }
        }
    }

    public static void main(String[] args) throws IOException {
        face();
        words();
        lengths();
        System.out.println(wrong == 0 ? "face: all is as due" : wrong + " things are not as due");
        if (wrong != 0) {
            System.exit(1);
        }
    }
}
