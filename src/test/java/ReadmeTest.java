import java.io.IOException;
import java.nio.file.Files;
import java.nio.file.Path;
import java.util.ArrayList;
import java.util.List;

/** README.md's example: its lines stand below, and answer as it tells. It is run from the project's folder. */
public final class ReadmeTest {
    public static void main(String[] args) throws IOException {
        example();
        linesStandHere();
        Checks.finish();
    }

    /** Puts the text on the tape, blanks behind it, and answers how many bytes it has. */
    private static int put(KingdomSurvey survey, String text) {
        for (int from = 0; from < text.length(); from += 20) {
            int[] five = new int[5];
            for (int i = 0; i < 20; i++) {
                int sign = from + i < text.length() ? text.charAt(from + i) : ' ';
                five[i / 4] = five[i / 4] << 8 | sign;
            }
            survey.feed(five[0], five[1], five[2], five[3], five[4]);
        }
        return text.length();
    }

    private static void example() throws IOException {
        KingdomSurvey survey = new KingdomSurvey();
        int hundred = survey.hundred();
        int ashby = survey.village(hundred, 5, put(survey, "ashby"));
        int odo = survey.lord(-1, put(survey, "odo"));
        int hugh = survey.lord(odo, put(survey, "hugh"));
        String jury = "in ashby odo has 3 hides, 40 worth; in ashby hugh has 4 hides, 2 ploughs";
        int sworn = survey.sworn(hundred, put(survey, jury));
        int told = survey.told(odo, put(survey, "in ashby odo has 2 hides, 40 worth"));
        int claimed = survey.claimed(ashby);
        int fewest = survey.fall(ashby);
        int fallen = survey.falls(0);
        int pairs = survey.lay(odo, ashby);
        int difference = survey.difference();
        int held = survey.held(odo, 0, true);
        boolean rated = survey.rates(10, 5, 0, 100);
        int tax = survey.tax(-1);
        int raised = survey.raised(40);
        int led = survey.led(1);
        int wrong = survey.sworn(hundred, put(survey, "in ashby odo has 3 cows"));
        int trouble = survey.trouble();
        int fault = survey.fault();
        int where = survey.where();
        int[] got = {hundred, ashby, odo, hugh, sworn, told, claimed, fewest, fallen, pairs, difference, held,
            rated ? 1 : 0, tax, raised, led, wrong, trouble, fault, where};
        List<Integer> due = answersTold();
        Checks.is("README: how many answers it tells", due.size(), got.length);
        for (int i = 0; i < Math.min(got.length, due.size()); i++) {
            Checks.is("README: answer " + i, got[i], due.get(i));
        }
    }

    private static void linesStandHere() throws IOException {
        List<String> here = new ArrayList<>();
        for (String line : Files.readAllLines(Path.of("src/test/java/ReadmeTest.java"))) {
            here.add(line.trim());
        }
        int next = 0;
        for (String line : codeOfReadme()) {
            String code = line.replaceAll(" *//.*", "").trim();
            int at = here.subList(next, here.size()).indexOf(code);
            Checks.is("README: stands here, in its order: " + code, at >= 0, true);
            next += Math.max(at + 1, 0);
        }
    }

    private static List<String> codeOfReadme() throws IOException {
        List<String> code = new ArrayList<>();
        boolean inside = false;
        for (String line : Files.readAllLines(Path.of("README.md"))) {
            if (line.startsWith("```")) {
                inside = line.equals("```java");
            } else if (inside) {
                code.add(line);
            }
        }
        return code;
    }

    /** Each number, or true, at the beginning of a comment behind a line. */
    private static List<Integer> answersTold() throws IOException {
        List<Integer> answers = new ArrayList<>();
        for (String line : codeOfReadme()) {
            if (line.contains("  // ")) {
                String answer = line.substring(line.indexOf("  // ") + 5).replaceAll(":.*", "");
                answers.add(answer.equals("true") ? 1 : Integer.parseInt(answer));
            }
        }
        return answers;
    }
}
