import java.io.IOException;
import java.lang.reflect.Constructor;
import java.lang.reflect.Field;
import java.lang.reflect.Member;
import java.lang.reflect.Method;
import java.lang.reflect.Modifier;
import java.nio.file.Files;
import java.nio.file.Path;
import java.util.ArrayList;
import java.util.Arrays;
import java.util.List;
import java.util.Set;
import java.util.TreeSet;
import java.util.regex.Matcher;
import java.util.regex.Pattern;

/** The public face is the document's and no more, and the source keeps to what LANGUAGE.md leaves. */
public final class FaceTest {
    private static final String[] FACE = {
        "int dress(int,int,int,int,int)", "int spot(int,int,int,int)", "int chisel(int,int,int,int)",
        "int crack(int,int,int,boolean)", "int leads(int,int)", "int is(int,int)", "int stuff(int)",
        "int pair(int,int)", "int crossings(int)", "int round(int)", "int outward(int)", "int drift()",
        "int gap(int)", "int hang(int,int,int)", "int gapAt(int,int,int)", "int gaps(int)",
        "int grain(int,int,int,int)", "int grist(int,int)", "int mill(int)", "int staff(int,int,int)",
        "int high(int,int,int)", "int level(int,int)", "int feel(int,int,int)", "int numb()", "int explains()",
        "int explained(int)", "int sieve(int,int)", "int skip()", "int meal(int,int)", "int sweep()",
        "int due(int,int,int,int)", "int free(int)", "int road(int,int,int)", "int dressers(int)", "int plan()",
        "int given(int)", "int begun(int)", "int count(int)", "long digest()"};
    private static final String[] FORBIDDEN = {
        "throw", "throws", "try", "catch", "finally", "synchronized", "assert", "import", "package", "volatile",
        "transient", "native", "strictfp", "System", "Thread", "Random", "var"};

    private final Check check = new Check();
    private final Set<String> publicNames = new TreeSet<>();

    private static String told(Method m) {
        List<String> types = new ArrayList<>();
        for (Class<?> type : m.getParameterTypes()) {
            types.add(type.getSimpleName());
        }
        return m.getReturnType().getSimpleName() + " " + m.getName() + "(" + String.join(",", types) + ")";
    }

    private static boolean isShown(Member member) {
        return !Modifier.isPrivate(member.getModifiers());
    }

    private void looksAtFace() {
        Set<String> shown = new TreeSet<>();
        for (Method m : StoneFurrows.class.getDeclaredMethods()) {
            if (isShown(m)) {
                shown.add(told(m));
                publicNames.add(m.getName());
                check.holds("public, of an object: " + m, m.getModifiers() == Modifier.PUBLIC);
            }
        }
        check.holds("methods are " + shown, shown.equals(new TreeSet<>(Arrays.asList(FACE))));
        Set<String> constants = new TreeSet<>();
        for (Field f : StoneFurrows.class.getDeclaredFields()) {
            if (isShown(f)) {
                constants.add(f.getName());
                check.holds("a public int: " + f, Modifier.isPublic(f.getModifiers()) && f.getType() == int.class);
            }
            check.holds("final, if static: " + f,
                !Modifier.isStatic(f.getModifiers()) || Modifier.isFinal(f.getModifiers()));
        }
        check.holds("constants are " + constants,
            constants.equals(Set.of("NONE", "UNKNOWN", "OUTSIDE", "STATE", "FULL")));
        check.holds("public and final", StoneFurrows.class.getModifiers() == (Modifier.PUBLIC | Modifier.FINAL));
        Constructor<?>[] made = StoneFurrows.class.getDeclaredConstructors();
        check.holds("one constructor without arguments", made.length == 1 && made[0].getParameterCount() == 0);
    }

    private void looksAtInsides() {
        Class<?>[] insides = StoneFurrows.class.getDeclaredClasses();
        check.holds("at most twelve classes", insides.length < 12);
        for (Class<?> inside : insides) {
            check.holds("static: " + inside, Modifier.isStatic(inside.getModifiers()));
            int fields = 0;
            for (Field f : inside.getDeclaredFields()) {
                fields += Modifier.isStatic(f.getModifiers()) ? 0 : 1;
            }
            check.holds("at most twenty fields: " + inside, fields <= 20);
            for (Method m : inside.getDeclaredMethods()) {
                check.holds("at most seven parameters: " + m, m.getParameterCount() <= 7);
                check.holds("no public name inside: " + m, !publicNames.contains(m.getName()));
            }
        }
        for (Method m : StoneFurrows.class.getDeclaredMethods()) {
            check.holds("no private method with a public name: " + m, isShown(m) || !publicNames.contains(m.getName()));
        }
    }

    private void looksAtSource(String source) {
        String bare = source.replaceAll("(?s)/\\*.*?\\*/", "").replaceAll("//[^\n]*", "");
        for (String word : FORBIDDEN) {
            Matcher m = Pattern.compile("\\b" + word + "\\b").matcher(bare);
            check.holds("the word " + word + " is not in it", !m.find());
        }
        check.holds("no lambda, no method reference", !bare.contains("->") && !bare.contains("::"));
        check.holds("nothing whose name ends in Exact", !bare.contains("Exact("));
        check.holds("signs are 0 to 127", source.chars().allMatch(c -> c < 128));
        check.holds("no static block", !Pattern.compile("static\\s*\\{").matcher(bare).find());
        int start = 0;
        String[] lines = bare.split("\n");
        for (int i = 0; i < lines.length; i++) {
            if (lines[i].matches(" {4,8}\\S.*\\) \\{")) {
                start = i;
            }
            check.holds("line " + (i + 1) + ": at most sixty lines a method",
                !lines[i].matches(" {4,8}\\}") || i - start <= 60 || lines[start].contains("class"));
        }
    }

    public static void main(String[] args) throws IOException {
        FaceTest test = new FaceTest();
        test.looksAtFace();
        test.looksAtInsides();
        test.looksAtSource(Files.readString(Path.of("src/main/java/StoneFurrows.java")));
        test.check.end();
    }
}
