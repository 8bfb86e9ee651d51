import java.util.ArrayList;
import java.util.List;

/**
 * A survey that can be made again as often as wanted, so that what a call leaves can be asked in full:
 * an object answers for 512 calls alone, and some questions change what later ones would find.
 */
final class Scene {
    private static final int NONE = KingdomSurvey.NONE;
    /** Few enough for the object to stay within its 512 calls behind the longest scene. */
    private static final int ASKED_OF_ONE = 60;

    /** A call, or a few, with an answer. */
    interface Step {
        long on(KingdomSurvey x);
    }

    private static final class Question {
        private final String name;
        private final Step step;

        private Question(String name, Step step) {
            this.name = name;
            this.step = step;
        }
    }

    /** A text with a FAULT 1 at 5, on whatever tape. */
    static final Step NEXT_FAULT = x -> emptied(x) + Checks.sworn(x, 0, "     x");

    private final List<Step> steps;

    Scene() {
        this(new ArrayList<>());
    }

    private Scene(List<Step> steps) {
        this.steps = steps;
    }

    /** So that false counts as refused, as NONE does. */
    static long yes(boolean answer) {
        return answer ? 1 : NONE;
    }

    Scene with(Step step) {
        List<Step> more = new ArrayList<>(steps);
        more.add(step);
        return new Scene(more);
    }

    Scene with(int times, Step step) {
        Scene scene = this;
        for (int i = 0; i < times; i++) {
            scene = scene.with(step);
        }
        return scene;
    }

    Scene fed(String text) {
        return with(x -> Checks.put(x, text));
    }

    KingdomSurvey made() {
        KingdomSurvey x = new KingdomSurvey();
        for (Step step : steps) {
            step.on(x);
        }
        return x;
    }

    /** Refused by this trouble: nothing but trouble() and where() is another than ahead of the call. */
    void refuses(String sentence, int trouble, Step call) {
        isRefused(sentence, trouble, call);
        Checks.is(sentence + ": fault() stays", with(call).made().fault(), made().fault());
        same(sentence, this, with(call));
        sameTape(sentence, this, with(call));
    }

    /** Refused by this trouble: the tape is empty then, and nothing else but trouble() and where() is another. */
    void refusesAndEmpties(String sentence, int trouble, Step call) {
        isRefused(sentence, trouble, call);
        Checks.is(sentence + ": fault() stays", with(call).made().fault(), made().fault());
        sameButTape(sentence, call);
    }

    /** A text that is refused for want of room: it has no fault. */
    void hasNoRoomFor(String sentence, Step call) {
        isRefused(sentence, 3, call);
        Checks.is(sentence + ": fault()", with(call).made().fault(), 0);
        sameButTape(sentence, call);
    }

    /** A text that is refused for this fault at this place. */
    void findsFault(String sentence, int fault, int place, Step call) {
        KingdomSurvey x = made();
        Checks.is(sentence, call.on(x), NONE);
        Checks.is(sentence + ": trouble()", x.trouble(), 4);
        Checks.is(sentence + ": fault()", x.fault(), fault);
        Checks.is(sentence + ": where()", x.where(), place);
        sameButTape(sentence, call);
    }

    /** Not refused, with this answer. */
    void allows(String sentence, long answer, Step call) {
        KingdomSurvey x = made();
        Checks.is(sentence, call.on(x), answer);
        Checks.is(sentence + ": trouble()", x.trouble(), 0);
        Checks.is(sentence + ": where()", x.where(), NONE);
    }

    /** Answered so by a call that can't be refused: all is as ahead of it, trouble(), where() and the tape too. */
    void answers(String sentence, long answer, Step call) {
        KingdomSurvey x = made();
        KingdomSurvey y = made();
        Checks.is(sentence, call.on(x), answer);
        Checks.is(sentence + ": trouble() stays", x.trouble(), y.trouble());
        Checks.is(sentence + ": where() stays", x.where(), y.where());
        Checks.is(sentence + ": fault() stays", x.fault(), y.fault());
        Checks.is(sentence + ": the tape stays", x.count(6), y.count(6));
    }

    /** As answers(), and all else that can be asked is compared too. */
    void answersAndLeavesAll(String sentence, long answer, Step call) {
        answers(sentence, answer, call);
        same(sentence, this, with(call));
        sameTape(sentence, this, with(call));
    }

    private void isRefused(String sentence, int trouble, Step call) {
        KingdomSurvey x = made();
        Checks.is(sentence, call.on(x), NONE);
        Checks.is(sentence + ": trouble()", x.trouble(), trouble);
        Checks.is(sentence + ": where()", x.where(), NONE);
    }

    private void sameButTape(String sentence, Step call) {
        Checks.is(sentence + ": the tape is empty then", with(call).made().count(6), 0);
        same(sentence, with(Scene::emptied), with(call));
    }

    private static long emptied(KingdomSurvey x) {
        return x.find(0, true);
    }

    private static void same(String sentence, Scene one, Scene other) {
        List<Question> questions = questions(one.made());
        for (int from = 0; from < questions.size(); from += ASKED_OF_ONE) {
            KingdomSurvey x = one.made();
            KingdomSurvey y = other.made();
            for (Question q : questions.subList(from, Math.min(questions.size(), from + ASKED_OF_ONE))) {
                Checks.is(sentence + ": leaves " + q.name, q.step.on(y), q.step.on(x));
            }
        }
        for (Question q : nextCalls()) {
            Checks.is(sentence + ": leaves " + q.name, q.step.on(other.made()), q.step.on(one.made()));
        }
    }

    /** How many bytes there are, and what the first of them are by names and texts. */
    private static void sameTape(String sentence, Scene one, Scene other) {
        int bytes = one.made().count(6);
        Checks.is(sentence + ": leaves the tape", other.made().count(6), bytes);
        for (int n : new int[] {1, 3, 4, 5, 10, 15, 24, bytes}) {
            if (n <= bytes) {
                Checks.is(sentence + ": leaves a name of " + n, other.made().find(n, false), one.made().find(n, false));
                Checks.is(sentence + ": leaves a text of " + n, faultOf(other.made(), n), faultOf(one.made(), n));
            }
        }
    }

    private static long faultOf(KingdomSurvey x, int n) {
        return x.sworn(0, n) * 10000L + x.fault() * 1000 + x.where();
    }

    /** Calls that change nothing, over all numbers that there are and one on each side. */
    private static List<Question> questions(KingdomSurvey x) {
        List<Question> all = new ArrayList<>();
        for (int what = 0; what < 6; what++) {
            int w = what;
            all.add(new Question("count(" + w + ")", y -> y.count(w)));
        }
        askOfRolls(all, x.count(3), x.count(4));
        askOfVillages(all, x.count(1));
        askOfLords(all, x.count(2));
        askOfHundreds(all, x.count(0));
        askOfPloughs(all, x);
        all.add(new Question("over()", KingdomSurvey::over));
        all.add(new Question("silent()", KingdomSurvey::silent));
        all.add(new Question("difference()", KingdomSurvey::difference));
        all.add(new Question("spared()", KingdomSurvey::spared));
        return all;
    }

    private static void askOfRolls(List<Question> all, int returns, int entries) {
        for (int i = -1; i <= entries; i++) {
            for (int what = 0; what < 8; what++) {
                int e = i;
                int w = what;
                all.add(new Question("entry(" + e + ", " + w + ")", y -> y.entry(e, w)));
            }
        }
        for (int i = -1; i <= returns; i++) {
            for (int what = 0; what < 4; what++) {
                int r = i;
                int w = what;
                all.add(new Question("returned(" + r + ", " + w + ")", y -> y.returned(r, w)));
            }
        }
    }

    private static void askOfVillages(List<Question> all, int villages) {
        for (int i = -1; i <= villages; i++) {
            int v = i;
            all.add(new Question("claimed(" + v + ")", y -> y.claimed(v)));
            all.add(new Question("silence(" + v + ")", y -> y.silence(v)));
        }
        for (int k = -1; k <= 12; k++) {
            int i = k;
            all.add(new Question("falls(" + i + ")", y -> y.falls(i)));
        }
        for (int k = -1; k <= 6; k++) {
            int i = k;
            all.add(new Question("pair(" + i + ", false)", y -> y.pair(i, false)));
            all.add(new Question("pair(" + i + ", true)", y -> y.pair(i, true)));
        }
    }

    private static void askOfLords(List<Question> all, int lords) {
        for (int i = -1; i <= lords; i++) {
            int l = i;
            all.add(new Question("under(" + l + ")", y -> y.under(l)));
            all.add(new Question("top(" + l + ")", y -> y.top(l)));
            all.add(new Question("tax(" + l + ")", y -> y.tax(l)));
            all.add(new Question("held(" + l + ", 0, false)", y -> y.held(l, 0, false)));
            all.add(new Question("held(" + l + ", 3, true)", y -> y.held(l, 3, true)));
        }
        for (int thing = 0; thing < 5; thing++) {
            int t = thing;
            all.add(new Question("greatest(" + t + ")", y -> y.greatest(t)));
        }
    }

    private static void askOfHundreds(List<Question> all, int hundreds) {
        for (int i = -1; i <= hundreds; i++) {
            int h = i;
            all.add(new Question("worse(" + h + ")", y -> y.worse(h)));
            all.add(new Question("sum(" + h + ", 0)", y -> y.sum(h, 0)));
        }
    }

    private static void askOfPloughs(List<Question> all, KingdomSurvey x) {
        int ploughs = 0;
        for (int h = 0; h < x.count(0); h++) {
            ploughs += x.sum(h, 1);
        }
        for (int plough : new int[] {0, ploughs - 1, ploughs}) {
            all.add(new Question("led(" + plough + ")", y -> y.led(plough)));
        }
    }

    /** Calls that would change something, or could be refused: what is to come is the same too. */
    private static List<Question> nextCalls() {
        List<Question> all = new ArrayList<>();
        all.add(new Question("the next hundred()", KingdomSurvey::hundred));
        for (String name : new String[] {"ashby", "bray", "cam", "odo", "hugh", "wace", "dale", "zzz"}) {
            all.add(new Question("the number of village " + name, y -> emptied(y) + Checks.find(y, name, false)));
            all.add(new Question("the number of lord " + name, y -> emptied(y) + Checks.find(y, name, true)));
        }
        all.add(new Question("the next village", y -> emptied(y) + Checks.village(y, 0, 5, "zzz")));
        all.add(new Question("the next lord", y -> emptied(y) + Checks.lord(y, -1, "zzz")));
        all.add(new Question("the next sworn()", y -> emptied(y) + Checks.sworn(y, 0, "in ashby odo has 1 hides")));
        all.add(new Question("the next told()", y -> emptied(y) + Checks.told(y, 0, "in bray odo has 1 hides")));
        for (int v = 0; v < 3; v++) {
            int village = v;
            all.add(new Question("fall(" + village + ")", y -> y.fall(village)));
            all.add(new Question("lay(0, " + village + ")", y -> y.lay(0, village)));
        }
        for (int wanted : new int[] {1, 30, 100}) {
            all.add(new Question("raised(" + wanted + ")", y -> y.raised(wanted)));
        }
        return all;
    }
}
