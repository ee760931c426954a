import java.nio.file.Files;
import java.nio.file.Path;
import java.util.regex.Matcher;
import java.util.regex.Pattern;

/** README.md shows calls, and behind each what it answers: both are held against the class. */
public final class ReadmeTest {
    private static final Checks c = new Checks("ReadmeTest");
    private static final Pattern CALL = Pattern.compile("(?m)^((?:int \\w+ = )?court\\.[^;]*;) *// (-?\\d+)");
    private static String readme;
    /** Where the search for the next call begins, as they must stand in this order. */
    private static int from = 0;

    public static void main(String[] args) throws Exception {
        readme = Files.readString(Path.of("README.md"));
        shownCalls();
        everyCallIsNamed();
        c.finish();
    }

    private static void shownCalls() {
        PassCourt court = new PassCourt();
        int plain = court.routine();
        shown("int plain = court.routine();", plain);
        shown("court.act(plain, 1, 1, 6, 0);", court.act(plain, 1, 1, 6, 0));
        shown("court.act(plain, 3, 2, 1, 1);", court.act(plain, 3, 2, 1, 1));
        shown("court.act(plain, 11, 2, 0, 0);", court.act(plain, 11, 2, 0, 0));
        int folded = court.pass(plain, 0);
        shown("int folded = court.pass(plain, 0);", folded);
        shown("court.at(folded, 1, 0);", court.at(folded, 1, 0));
        shown("court.judge(plain, folded);", court.judge(plain, folded));
        shown("court.run(folded, 100);", court.run(folded, 100));
        shown("court.out(0);", court.out(0));
        shown("court.clear();", court.clear());
        shown("court.pair(0, 0, 0, 0);", court.pair(0, 0, 0, 0));
        shown("court.judge(plain, folded);", court.judge(plain, folded));
        shown("court.where();", court.where());
        c.due("calls that are shown beyond these", CALL.matcher(readme).find(from) ? 1 : 0, 0);
    }

    /** The next line of README.md that shows a call is this one, with this answer behind it. */
    private static void shown(String call, long answer) {
        Matcher next = CALL.matcher(readme);
        boolean found = next.find(from);
        c.due(call + " is the next call", found && next.group(1).equals(call) ? 1 : 0, 1);
        if (found) {
            c.due(call, answer, Long.parseLong(next.group(2)));
            from = next.end();
        }
    }

    private static void everyCallIsNamed() {
        for (var method : PassCourt.class.getDeclaredMethods()) {
            if (java.lang.reflect.Modifier.isPublic(method.getModifiers())) {
                c.due(method.getName() + " is named", readme.contains("`" + method.getName() + "`") ? 1 : 0, 1);
            }
        }
    }
}
