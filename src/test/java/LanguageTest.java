import java.io.IOException;
import java.lang.reflect.Constructor;
import java.lang.reflect.Field;
import java.lang.reflect.Method;
import java.lang.reflect.Modifier;
import java.nio.file.Files;
import java.nio.file.Path;
import java.util.Arrays;
import java.util.Set;
import java.util.TreeSet;
import java.util.regex.Matcher;
import java.util.regex.Pattern;

/** The rules of LANGUAGE.md that a look at the source or at the class can tell, and the public face. */
public final class LanguageTest {
    private static final Due due = new Due();
    // Of what LANGUAGE.md tells as "some", a little more is no fault.
    private static final int SOME_TWELVE = 14, SOME_TWENTY = 24, SOME_SIXTY = 70;

    private static final String FACE = "steppe(int,int,int,int):int ofPerson(int,int):int tale(int,int,int):int "
        + "undo(int):int move(int,int,int):int unmove(int):int law(int):int pay(int,boolean):int "
        + "parody(int,boolean):int remembers(int,int):int hearth(int,int):int told(int,int):int "
        + "forbidden(int):int dies(int):int free(int,int):int fewest(int,int):int longest(int,int):int "
        + "need(int,int):int clash(int):int plan(int,int,int,int,int):int reading(int,int,int,boolean):int "
        + "back(int):int comes(int):int paid():int laws():int odds(int,int,int):long sheet(int,int,int):int "
        + "lose(int):int put(int,int,int):int cell(int,int,int):long copy(int,int,int,int,int):int tell(int):int "
        + "greet(int):int as(int,int):int trace():int fault():int many(int):int";

    public static void main(String[] args) throws Exception {
        face();
        constants();
        source();
        due.finish();
    }

    private static void face() {
        Set<String> found = new TreeSet<>();
        Set<String> names = new TreeSet<>();
        for (Method method : TaleBans.class.getDeclaredMethods()) {
            if (!Modifier.isPrivate(method.getModifiers())) {
                String types = Arrays.toString(Arrays.stream(method.getParameterTypes()).map(Class::getName).toArray());
                String signature = types.replaceAll("[\\[\\] ]", "");
                found.add(method.getName() + "(" + signature + "):" + method.getReturnType());
                names.add(method.getName());
                truth(method + " is public alone", method.getModifiers() == Modifier.PUBLIC);
            }
        }
        Set<String> told = new TreeSet<>(Arrays.asList(FACE.split(" ")));
        truth("the face: " + found, found.equals(told));
        for (Class<?> inside : TaleBans.class.getDeclaredClasses()) {
            truth(inside + " is static and not public", Modifier.isStatic(inside.getModifiers())
                && !Modifier.isPublic(inside.getModifiers()) && !Modifier.isProtected(inside.getModifiers()));
            methodsOf(inside);
        }
        methodsOf(TaleBans.class);
        for (Method method : TaleBans.class.getDeclaredMethods()) {
            boolean isPrivate = Modifier.isPrivate(method.getModifiers());
            truth(method + " bears a name of its own", !isPrivate || !names.contains(method.getName()));
        }
        truth("some twelve classes", TaleBans.class.getDeclaredClasses().length <= SOME_TWELVE);
        truth("the class is public and final", TaleBans.class.getModifiers() == (Modifier.PUBLIC | Modifier.FINAL));
        Constructor<?>[] made = TaleBans.class.getDeclaredConstructors();
        truth("one constructor", made.length == 1 && made[0].getParameterCount() == 0
            && made[0].getModifiers() == Modifier.PUBLIC);
    }

    private static void methodsOf(Class<?> where) {
        int fields = 0;
        for (Field field : where.getDeclaredFields()) {
            fields += Modifier.isStatic(field.getModifiers()) ? 0 : 1;
        }
        truth(where + " has some twenty fields", fields <= SOME_TWENTY);
        for (Method method : where.getDeclaredMethods()) {
            truth(method + " takes at most seven", method.getParameterCount() <= 7);
        }
    }

    private static void constants() throws Exception {
        Set<String> shown = new TreeSet<>();
        for (Field field : TaleBans.class.getDeclaredFields()) {
            int is = field.getModifiers();
            truth(field + ": what is static is final", !Modifier.isStatic(is) || Modifier.isFinal(is));
            if (!Modifier.isPrivate(is)) {
                shown.add(field.getName());
                truth(field + " is public", is == (Modifier.PUBLIC | Modifier.STATIC | Modifier.FINAL));
            }
        }
        truth("the constants: " + shown,
            shown.equals(new TreeSet<>(Arrays.asList("UNKNOWN", "OUTSIDE", "STATE", "FULL", "NONE", "LOST"))));
        due.is("UNKNOWN", TaleBans.UNKNOWN, -1);
        due.is("OUTSIDE", TaleBans.OUTSIDE, -2);
        due.is("STATE", TaleBans.STATE, -3);
        due.is("FULL", TaleBans.FULL, -4);
        due.is("NONE", TaleBans.NONE, -9);
        due.is("LOST", TaleBans.LOST, Long.MIN_VALUE);
        truth("LOST is a long", TaleBans.class.getField("LOST").getType() == long.class);
    }

    private static void source() throws IOException {
        String whole = Files.readString(Path.of("src/main/java/TaleBans.java"));
        truth("signs 1 to 127 alone", whole.chars().allMatch(sign -> sign >= 1 && sign <= 127));
        String code = whole.replaceAll("(?s)/\\*.*?\\*/", "").replaceAll("//[^\n]*", "");
        for (String word : new String[] {"throw", "throws", "try", "catch", "finally", "synchronized", "assert",
            "package", "\\w+Exact", "hashCode", "System\\.(?!arraycopy)\\w+", "Random", "Thread"}) {
            Matcher matcher = Pattern.compile("\\b" + word + "\\b").matcher(code);
            truth("no " + word, !matcher.find());
        }
        String noCases = code.replaceAll("(case [^;{}]*?|default) ->", "");
        truth("no lambda or method reference", !noCases.contains("->") && !noCases.contains("::"));
        String noImports = code.replaceAll("import java\\.util\\.(ArrayList|List|Arrays|Iterator|\\*);", "");
        truth("no other library", !Pattern.compile("\\bimport\\b").matcher(noImports).find());
        methodsAreShort(code);
    }

    private static void methodsAreShort(String code) {
        int begun = -1;
        String[] lines = code.split("\n");
        String head = "";
        for (int k = 0; k < lines.length; k++) {
            if (lines[k].matches("\\s+(@?\\w+ )*[\\w\\[\\]]+ ?\\w*\\([^;]*\\) \\{") && !lines[k].matches("\\s+(if|for|while|switch|\\}).*")) {
                begun = k;
                head = lines[k];
            } else if (begun >= 0 && lines[k].equals(head.replaceAll("\\S.*", "") + "}")) {
                truth("short: " + head.trim(), k - begun <= SOME_SIXTY);
                begun = -1;
            }
        }
    }

    private static void truth(String what, boolean is) {
        due.is(what, is ? 1 : 0, 1);
    }
}
