import java.io.IOException;
import java.lang.reflect.Method;
import java.lang.reflect.Modifier;
import java.nio.file.Files;
import java.nio.file.Path;
import java.util.ArrayList;
import java.util.List;
import java.util.regex.Matcher;
import java.util.regex.Pattern;

/** README.md's example is the one that stands here, and answers what README.md says behind each line. */
public final class ReadmeTest extends Checks {
    private static final String BEGIN = "// the example begins";
    private static final String END = "// the example ends";

    public static void main(String[] args) throws IOException {
        String readme = Files.readString(Path.of("README.md"));
        exampleIsTheSame(readme);
        exampleAnswers(readme);
        eachCallIsNamed(readme);
        end();
    }

    private static void exampleIsTheSame(String readme) throws IOException {
        sentence("README.md's example");
        String here = Files.readString(Path.of("src/test/java/ReadmeTest.java"));
        List<String> told = codeLines(between(readme, "```java\n", "```"));
        List<String> tested = codeLines(between(here, BEGIN + "\n", END + "\n"));
        same("the code", String.join("\n", tested), String.join("\n", told));
    }

    private static String between(String text, String begin, String end) {
        int from = text.indexOf(begin);
        int to = from < 0 ? -1 : text.indexOf(end, from + begin.length());
        return to < 0 ? "" : text.substring(from + begin.length(), to);
    }

    private static List<String> codeLines(String block) {
        List<String> lines = new ArrayList<>();
        for (String line : block.split("\n")) {
            String code = line.replaceAll("//.*", "").strip();
            if (!code.isEmpty()) {
                lines.add(code);
            }
        }
        return lines;
    }

    private static void exampleAnswers(String readme) {
        sentence("README.md's example");
        // the example begins
        PackingSearch search = new PackingSearch(3, 2, 2);
        int low = search.piece(2, 2, 1, 10);
        int tall = search.piece(1, 2, 2, 5);
        int ways = search.turn(tall, 3);
        search.limit(low, 20);
        search.share(50);
        int place = search.rank(tall, 1);
        int most = search.bound();
        int volume = search.solve(3000);
        boolean all = search.exact();
        int needed = search.steps();
        int x = search.at(tall, 0);
        int piece = search.cell(2, 1, 1);
        int supported = search.support(tall);
        int borne = search.bears(low);
        boolean above = search.over(tall, low);
        int height = search.count(6);
        int number = search.close();
        int into = search.box(tall);
        // the example ends
        Object[] answers = {low, tall, ways, place, most, volume, all, needed, x, piece, supported, borne, above,
            height, number, into};
        List<String> told = toldAnswers(between(readme, "```java\n", "```"));
        same("how many are told", Integer.toString(answers.length), Integer.toString(told.size()));
        for (int i = 0; i < answers.length && i < told.size(); i++) {
            same("answer " + i + " in README.md", String.valueOf(answers[i]), told.get(i));
        }
    }

    /** A line that keeps an answer says it behind the colon of its comment. */
    private static List<String> toldAnswers(String block) {
        List<String> answers = new ArrayList<>();
        Matcher line = Pattern.compile("(?m)^(?:int|boolean) .*//.*: (\\S+)$").matcher(block);
        while (line.find()) {
            answers.add(line.group(1));
        }
        return answers;
    }

    private static void eachCallIsNamed(String readme) {
        sentence("README.md's table");
        for (Method method : PackingSearch.class.getDeclaredMethods()) {
            if (Modifier.isPublic(method.getModifiers())) {
                yes(method.getName() + " is in it", () -> readme.contains("`" + method.getName() + "("));
            }
        }
    }
}
