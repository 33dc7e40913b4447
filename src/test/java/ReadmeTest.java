import java.io.IOException;
import java.lang.reflect.Method;
import java.nio.file.Files;
import java.nio.file.Path;
import java.util.Arrays;
import java.util.regex.Matcher;
import java.util.regex.Pattern;

/** The calls that README.md shows, made in their order on one object: what stands behind // is due. */
public final class ReadmeTest {
    private static final Pattern TEXT = Pattern.compile("String text = \"([^\"]*)\";");
    private static final Pattern ROW = Pattern.compile("(?m)^x\\.(\\w+)\\((.*)\\);\\s*// (-?\\d+)\\b");
    private static final int SHOWN = 30;
    private static final Due due = new Due();

    public static void main(String[] args) throws Exception {
        String page = Files.readString(Path.of("README.md"));
        Matcher text = TEXT.matcher(page);
        due.is("the page shows a text", text.find() ? 1 : 0, 1);
        makeCalls(page, text.group(1));
        due.finish();
    }

    private static void makeCalls(String page, String text) throws Exception {
        TaleBans x = new TaleBans();
        int shown = 0;
        for (Matcher row = ROW.matcher(page); row.find(); shown++) {
            String numbers = row.group(2).replace("text.length()", "" + text.length());
            due.is(row.group(1) + "(" + numbers + ")", answer(x, row.group(1), numbers), Long.parseLong(row.group(3)));
            if (row.group(1).equals("sheet")) {
                for (int i = 0; i < text.length(); i++) {
                    x.put(0, i, text.charAt(i));
                }
            }
        }
        due.is("how many calls the page shows with their answers", shown, SHOWN);
    }

    private static long answer(TaleBans x, String name, String numbers) throws Exception {
        String[] told = numbers.isEmpty() ? new String[0] : numbers.split(", ");
        Method call = Arrays.stream(TaleBans.class.getMethods()).filter(m -> m.getName().equals(name)).findFirst().get();
        Object[] arguments = new Object[told.length];
        for (int k = 0; k < told.length; k++) {
            boolean isFlag = call.getParameterTypes()[k] == boolean.class;
            arguments[k] = isFlag ? (Object) Boolean.valueOf(told[k]) : (Object) Integer.valueOf(told[k]);
        }
        return ((Number) call.invoke(x, arguments)).longValue();
    }
}
