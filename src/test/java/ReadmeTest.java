import java.io.IOException;
import java.lang.reflect.Method;
import java.lang.reflect.Modifier;
import java.nio.file.DirectoryStream;
import java.nio.file.Files;
import java.nio.file.Path;

/** The example of README.md answers what it says there, and the page names every call and every test. */
public final class ReadmeTest {
    private static final Path PAGE = Path.of("README.md");
    private static final Path TESTS = Path.of("src/test/java");

    public static void main(String[] args) throws IOException {
        example();
        exampleIsThatOfThePage();
        everyCallIsNamed();
        everyTestIsNamed();
        Check.finish();
    }

    private static void example() {
        UnionList list = new UnionList();
        int copy = list.addCopy(2, 0);
        Check.equal("addCopy", copy, 0);
        Check.equal("listed at first", list.listed(copy), -1);
        Check.equal("the message", list.pass(3), 1);
        Check.equal("listed then", list.listed(copy), 1);
        int request = list.request(1, 0);
        Check.equal("request", request, 0);
        Check.equal("the question", list.pass(2), 1);
        Check.equal("coming", list.state(request), UnionList.COMING);
        Check.equal("the copy", list.pass(2), 1);
        Check.equal("due", list.due(request), 27);
        Check.equal("quota", list.quota(1), 1);
        Check.equal("renew", list.renew(request), 9);
        Check.equal("the renewal and the message", list.pass(2), 2);
        Check.equal("due later", list.due(request), 47);
        Check.equal("nothing", list.pass(40), 0);
        Check.equal("late", list.sendBack(request), 2);
        Check.equal("owes", list.owes(1, 2), 2);
        Check.equal("is owed", list.owes(2, 1), -2);
        Check.equal("the copy again", list.pass(2), 1);
        Check.equal("over", list.state(request), UnionList.OVER);
        Check.equal("settle", list.settle(), 1);
        Check.equal("owes nothing", list.owes(1, 2), 0);
        Check.badState("due of what is over", () -> list.due(request));
    }

    /** Each call of the page's example stands in this file, behind the one before it, with its answer. */
    private static void exampleIsThatOfThePage() throws IOException {
        String here = Files.readString(TESTS.resolve("ReadmeTest.java"));
        String page = Files.readString(PAGE);
        int begin = page.indexOf("```java\n");
        int end = begin < 0 ? -1 : page.indexOf("```\n", begin + 8);
        Check.equal("there is an example", end > begin, true);
        if (end <= begin) {
            return;
        }
        int place = here.indexOf("private static void example()");
        int lines = 0;
        for (String line : page.substring(begin + 8, end).split("\n")) {
            int comment = line.indexOf("//");
            String call = (comment < 0 ? line : line.substring(0, comment)).trim().replace(";", "");
            int found = here.indexOf(call, place);
            Check.equal("the test calls " + call + " next", found >= 0 && linesBetween(here, place, found) <= 2, true);
            place = found < 0 ? place : found + call.length();
            String answer = comment < 0 ? "" : line.substring(comment + 2).split(":")[0].trim();
            Check.equal("the test holds " + line, answerStands(here, place, answer), true);
            lines++;
        }
        Check.equal("lines of the example", lines, 23);
    }

    private static int linesBetween(String text, int from, int to) {
        return (int) text.substring(from, to).chars().filter(sign -> sign == '\n').count();
    }

    /** Up to the end of the next line, for some answers are kept before they are checked. */
    private static boolean answerStands(String here, int place, String answer) {
        if (answer.startsWith("throws ")) {
            return answer.equals("throws IllegalStateException");
        }
        int lineEnd = here.indexOf('\n', here.indexOf('\n', place) + 1);
        return answer.isEmpty() || here.substring(place, lineEnd).contains(", " + answer + ");");
    }

    private static void everyCallIsNamed() throws IOException {
        String page = Files.readString(PAGE);
        for (Method method : UnionList.class.getDeclaredMethods()) {
            if (Modifier.isPublic(method.getModifiers())) {
                Check.equal("the page's table names " + method.getName(),
                        page.contains("| `" + method.getName() + "("), true);
                for (Class<?> exception : method.getExceptionTypes()) {
                    Check.equal("it names " + exception.getSimpleName() + " of " + method.getName(),
                            rowOf(page, method.getName()).contains(exception.getSimpleName()), true);
                }
            }
        }
    }

    private static String rowOf(String page, String method) {
        int begin = page.indexOf("| `" + method + "(");
        return begin < 0 ? "" : page.substring(begin, page.indexOf('\n', begin));
    }

    private static void everyTestIsNamed() throws IOException {
        String page = Files.readString(PAGE);
        int tests = 0;
        try (DirectoryStream<Path> files = Files.newDirectoryStream(TESTS, "*Test.java")) {
            for (Path file : files) {
                String name = file.getFileName().toString().replace(".java", "");
                Check.equal("the page's table names " + name, page.contains("| `" + name + "` |"), true);
                tests++;
            }
        }
        Check.equal("there are tests", tests > 0, true);
    }
}
