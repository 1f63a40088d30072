import java.nio.file.Files;
import java.nio.file.Path;
import java.util.regex.Matcher;
import java.util.regex.Pattern;

/** The example of README.md: each line of it stands here, and answers what the page tells. */
public final class ReadmeTest {
    public static void main(String[] args) throws Exception {
        example();
        sameLines();
        Check.end();
    }

    private static void example() {
        QuireDesk d = new QuireDesk();
        d.put(0, 0, 1);
        d.put(0, 1, 1);
        d.rule(0, 2, 2);
        d.rule(0, 5, 1);
        d.mark(0, 1, 2, 7);
        long ways = d.ways(0);
        Check.is("ways", ways, 3);
        int lost = d.fewest(0);
        Check.is("lost", lost, 2);
        int n = d.write();
        Check.is("n", n, 9);
        Check.is("formula", Check.formula(d), "A4(-2,-3)");
        d.copy(0);

        d.feed(0x4134282d, 0x322c2d33, 0x29204232, 0, 0);
        d.end(12);
        int things = d.read();
        Check.is("things", things, 4);
        Check.is("read", Check.formula(d), "A4(-2,-3) B2");
        d.copy(1);
        int unlike = d.against(0, 1);
        Check.is("unlike", unlike, 2);
        for (int i = 0; i < 2; i++) {
            Check.is("quire", d.differs(0, 1, i, 0), 1);
            Check.is("place", d.differs(0, 1, i, 1), 1 + i);
        }
        int both = d.ideal(0, 1);
        Check.is("both", both, 4);

        d.mark(0, 1, 2, 6);
        int stuck = d.why(0);
        Check.is("stuck", stuck, 1);
    }

    /** The page's lines are those above, and the numbers that it tells stand in the checks. */
    private static void sameLines() throws Exception {
        String page = Files.readString(Path.of("README.md"));
        String here = Files.readString(Path.of("src/test/java/ReadmeTest.java"));
        int from = page.indexOf("```java\n") + 8;
        int to = page.indexOf("```", from);
        Check.is("there is an example", from > 8 && to > from, true);
        Pattern told = Pattern.compile("(?:int|long) (\\w+) = .*// (\\d+):.*");
        for (String line : page.substring(from, to).split("\n")) {
            String call = line.replaceAll(" *//.*", "");
            Check.is("a line of the page: " + call, here.contains(call + "\n"), true);
            Matcher m = told.matcher(line);
            if (m.matches()) {
                String check = "Check.is(\"" + m.group(1) + "\", " + m.group(1) + ", " + m.group(2);
                Check.is("what it tells: " + line, here.contains(check + ");"), true);
            }
        }
    }
}
