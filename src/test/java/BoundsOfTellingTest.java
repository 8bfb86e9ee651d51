/**
 * The sentences of promises 1 to 10 and 13 that name a boundary, each with a test of its own: what lies on
 * each side of it, what is answered, what trouble() says then, and that a refused call changes nothing else.
 */
public final class BoundsOfTellingTest {
    private static final int NONE = KingdomSurvey.NONE;
    private static final int LEAST = Integer.MIN_VALUE;
    private static final int MOST = Integer.MAX_VALUE;
    private static final String ENTRY = "in ashby odo has 1 hides";
    private static final String SHORT = "in cam odo has 1was";

    private static final Scene NEW = new Scene();
    /** Something of everything is told, and the latest text had a FAULT 2 at 3; the tape is empty. */
    private static final Scene TOLD = NEW
            .with(2, KingdomSurvey::hundred)
            .with(x -> Checks.village(x, 0, 5, "ashby"))
            .with(x -> Checks.village(x, 1, 3, "bray"))
            .with(x -> Checks.village(x, 0, 0, "cam"))
            .with(x -> Checks.lord(x, -1, "odo"))
            .with(x -> Checks.lord(x, 0, "hugh"))
            .with(x -> Checks.lord(x, 1, "wace"))
            .with(x -> Checks.sworn(x, 0, "in ashby odo has 3 hides,4 ploughs,1 mills,40 worth,60 was;in ashby hugh has 4 hides,9 worth"))
            .with(x -> Checks.told(x, 0, "in ashby odo has 2 hides;in bray odo has 1 mills"))
            .with(x -> Scene.yes(x.rates(2, 5, 1, 50)))
            .with(x -> x.fall(0))
            .with(x -> x.lay(0, 0))
            .with(x -> Checks.sworn(x, 0, "in x"));

    public static void main(String[] args) {
        nothingIsTold();
        hundreds();
        fedBytes();
        moreThanTheTapeHas();
        villagesHundred();
        villagesHides();
        villagesBytes();
        villagesName();
        villagesRoom();
        villagesTroublesInOrder();
        lordsOverlord();
        lordsBytes();
        lordsName();
        lordsRoom();
        lordsTroublesInOrder();
        holdsOfNoneSuch();
        holdsOfItself();
        holdsOfOthers();
        swornByNoneSuch();
        swornBytes();
        toldByNoneSuch();
        toldBytes();
        textsWithFaults();
        roomForReturns();
        roomForEntries();
        textsTroublesInOrder();
        faultOfTheLatestText();
        whereOfTheLatestRefusal();
        findBytes();
        findNames();
        Checks.finish();
    }

    private static Scene fed(String text) {
        return TOLD.fed(text);
    }

    /** Numbers of which none is one of 0 up to, and without, many. */
    private static int[] outside(int many) {
        return new int[] {-1, many, many + 1, -2, LEAST, MOST};
    }

    /** The same where -1 is the king. */
    private static int[] outsideAndNoKing(int many) {
        return new int[] {-2, many, many + 1, LEAST, MOST};
    }

    private static String letters(int many) {
        return "abcdefghijklmnopqrstuvwxyz".repeat(1 + many / 26).substring(0, many);
    }

    private static String numbered(int i) {
        return "n" + (char) ('a' + i / 26) + (char) ('a' + i % 26);
    }

    private static boolean isSmallLetter(int b) {
        return "abcdefghijklmnopqrstuvwxyz".indexOf(b) >= 0;
    }

    private static void nothingIsTold() {
        for (int what = 0; what <= 6; what++) {
            int w = what;
            NEW.answers("1: Nothing told: count " + w, 0, x -> x.count(w));
        }
        Scene.Step[] none = {
            x -> x.where(), x -> x.entry(0, 0), x -> x.returned(0, 0), x -> x.claimed(0), x -> x.falls(0), x -> x.silence(0),
            x -> x.difference(), x -> x.pair(0, false), x -> x.pair(0, true), x -> x.held(0, 0, true), x -> x.under(0),
            x -> x.top(0), x -> x.sum(0, 0), x -> x.tax(0), x -> x.worse(0), x -> x.led(0)};
        for (int i = 0; i < none.length; i++) {
            NEW.answersAndLeavesAll("1: Nothing told: there is none, " + i, NONE, none[i]);
        }
        Scene.Step[] zero = {
            x -> x.trouble(), x -> x.fault(), x -> x.over(), x -> x.silent(), x -> x.tax(-1), x -> x.spared()};
        for (int i = 0; i < zero.length; i++) {
            NEW.answersAndLeavesAll("1: Nothing told: 0, " + i, 0, zero[i]);
        }
        NEW.answersAndLeavesAll("1: Nothing told: greatest", -2, x -> x.greatest(0));
        NEW.refuses("1: Nothing told: fall", 1, x -> x.fall(0));
        NEW.refuses("1: Nothing told: lay", 1, x -> x.lay(0, 0));
        NEW.refuses("1: Nothing told: holds", 1, x -> Scene.yes(x.holds(0, -1)));
        NEW.refuses("1: Nothing told: sworn", 1, x -> x.sworn(0, 0));
        NEW.refuses("1: Nothing told: told", 1, x -> x.told(0, 0));
        NEW.allows("1: Nothing told: find", -2, x -> Checks.find(x, "ashby", false));
        NEW.allows("1: Nothing told: raised by 0", 0, x -> x.raised(0));
        NEW.allows("1: Nothing told: raised by 1", -2, x -> x.raised(1));
    }

    private static void hundreds() {
        for (int many = 0; many < 8; many++) {
            NEW.with(many, KingdomSurvey::hundred).allows("2: A HUNDRED: its number", many, KingdomSurvey::hundred);
        }
        NEW.with(8, KingdomSurvey::hundred).refuses("2: NONE (3) beyond HUNDREDS 8", 3, KingdomSurvey::hundred);
        Scene full = TOLD.with(5, KingdomSurvey::hundred);
        full.fed("ashby").allows("2: the 8th", 7, KingdomSurvey::hundred);
        full.with(KingdomSurvey::hundred).fed("ashby").refuses("2: NONE (3) for a 9th", 3, KingdomSurvey::hundred);
        full.with(3, KingdomSurvey::hundred).refuses("2: NONE (3) for an 11th", 3, KingdomSurvey::hundred);
        full.with(KingdomSurvey::hundred).allows("2: the 8th can be used", 3, x -> Checks.village(x, 7, 0, "dale"));
    }

    /** A byte that isn't blank begins no text, so that where() tells at which place it stands. */
    private static void fedBytes() {
        KingdomSurvey x = new KingdomSurvey();
        for (int place = 0; place < 20; place++) {
            for (int b = 0; b < 256; b++) {
                if (b % 128 == 0) {
                    x = new KingdomSurvey();
                    x.hundred();
                }
                Checks.put(x, " ".repeat(place) + (char) b);
                x.sworn(0, 20);
                Checks.is("3: of each number the highest first: byte " + b + " at " + place, x.where(), b == 32 || b == 10 ? 20 : place);
            }
        }
        for (int many = 0; many < 20; many++) {
            Scene some = TOLD.with(many, y -> y.feed(-1, 0, MOST, LEAST, 1));
            Checks.is("3: how many it has", some.made().feed(0, 0, 0, 0, 0), 20 * many + 20);
            Checks.is("3: trouble() stays", some.with(y -> y.feed(0, 0, 0, 0, 0)).made().trouble(), 4);
            Checks.is("3: where() stays", some.with(y -> y.feed(0, 0, 0, 0, 0)).made().where(), 3);
        }
        Checks.is("3: behind the tape", fed(letters(20)).with(y -> Checks.put(y, "abcd")).with(y -> y.sworn(0, 20)).made().where(), 0);
        Checks.is("3: behind the tape", fed(" ".repeat(20)).fed("  ab").with(y -> y.sworn(0, 40)).made().where(), 22);
    }

    private static void moreThanTheTapeHas() {
        String full = " ".repeat(376) + ENTRY;
        Checks.is("3: 400 bytes come", TOLD.fed(full).made().count(6), 400);
        TOLD.fed(full).answersAndLeavesAll("3: NONE, and none comes, if there would be more than 400", NONE, x -> x.feed(1633771873, 0, -1, MOST, LEAST));
        TOLD.fed(full).with(3, x -> x.feed(0, 0, 0, 0, 0)).allows("3: the 400 are read", 2, x -> x.sworn(0, 400));
        TOLD.fed(full).refuses("3: a 401st isn't there", 2, x -> x.sworn(0, 401));
        TOLD.fed(full).with(x -> x.sworn(0, 400)).answers("3: there is room again", 0, x -> x.count(6));
        Checks.is("3: twenty come again", TOLD.fed(full).with(x -> x.sworn(0, 400)).made().feed(0, 0, 0, 0, 0), 20);
    }

    private static void villagesHundred() {
        for (int bad : outside(2)) {
            fed("dale").refuses("4: NONE: 1 (HUNDRED), " + bad, 1, x -> x.village(bad, 5, 4));
        }
        fed("dale").allows("4: in the first HUNDRED", 3, x -> x.village(0, 5, 4));
        fed("dale").allows("4: in the last HUNDRED", 3, x -> x.village(1, 5, 4));
        Scene first = fed("dale").with(x -> x.village(0, 5, 4)).fed("in dale odo has 1 hides");
        first.allows("4: it lies in the first", 2, x -> x.sworn(0, 23));
        first.findsFault("4: it doesn't lie in the last", 2, 3, x -> x.sworn(1, 23));
        NEW.fed("dale").refuses("4: NONE: 1 without HUNDREDS", 1, x -> x.village(0, 5, 4));
        NEW.fed("dale").with(KingdomSurvey::hundred).allows("4: the first of all", 0, x -> x.village(0, 5, 4));
    }

    private static void villagesHides() {
        for (int bad : new int[] {-1, 201, 202, LEAST, MOST, 256, 65536}) {
            fed("dale").refuses("4: 2 (HIDES; these leave THE TAPE), " + bad, 2, x -> x.village(0, bad, 4));
        }
        for (int good : new int[] {0, 1, 127, 128, 199, 200}) {
            fed("dale").allows("4: HIDES (0 .. 200), " + good, 3, x -> x.village(0, good, 4));
            Scene rated = fed("dale").with(x -> x.village(0, good, 4));
            Checks.is("4: rated at " + good, rated.with(x -> Checks.sworn(x, 0, "in dale odo has " + good + " hides")).made().over(), 1);
            Checks.is("4: rated at no more than " + good, rated.with(x -> Checks.sworn(x, 0, "in dale odo has " + (good + 1) + " hides")).made().over(), 2);
        }
    }

    private static void villagesBytes() {
        for (int bad : new int[] {-1, 21, 22, 400, 401, LEAST, MOST}) {
            fed("dale").refuses("4: 2 (n; these leave THE TAPE), " + bad, 2, x -> x.village(0, 5, bad));
        }
        TOLD.refuses("4: 2 (n) of an empty tape", 2, x -> x.village(0, 5, 1));
        fed(letters(400)).refuses("4: 2 (n) of a full tape", 2, x -> x.village(0, 5, 401));
        fed(letters(400)).refusesAndEmpties("4: all bytes of a full tape are no name", 2, x -> x.village(0, 5, 400));
        fed("dale").refusesAndEmpties("4: all bytes of the tape, blanks too, are no name", 2, x -> x.village(0, 5, 20));
        fed("dale").allows("4: the first n bytes alone", 3, x -> x.village(0, 5, 3));
        Checks.is("4: it is empty then", fed("dale").with(x -> x.village(0, 5, 3)).made().count(6), 0);
        fed("dale").with(x -> x.village(0, 5, 3)).allows("4: they are its name", 3, x -> Checks.find(x, "dal", false));
        fed("dale").with(x -> x.village(0, 5, 3)).allows("4: more aren't", -2, x -> Checks.find(x, "dale", false));
    }

    private static void villagesName() {
        TOLD.refusesAndEmpties("4: 2 (no name): no letter of an empty tape", 2, x -> x.village(0, 5, 0));
        fed("dale").refusesAndEmpties("4: 2 (no name): no letter", 2, x -> x.village(0, 5, 0));
        for (int many = 1; many <= 10; many++) {
            String name = letters(many);
            TOLD.allows("4: 1 to 10 small letters: " + name, 3, x -> Checks.village(x, 0, 5, name));
            TOLD.with(x -> Checks.village(x, 0, 5, name)).allows("4: found by " + name, 3, x -> Checks.find(x, name, false));
        }
        for (int many : new int[] {11, 12, 20, 21, 40, 399}) {
            fed(letters(many)).refusesAndEmpties("4: 2 (no name): letters: " + many, 2, x -> x.village(0, 5, many));
        }
        for (int place = 0; place < 3; place++) {
            for (int b = 0; b < 256; b++) {
                String name = "ddd".substring(0, place) + (char) b + "ddd".substring(place + 1);
                KingdomSurvey x = TOLD.made();
                Checks.is("4: small letters: byte " + b, Checks.village(x, 0, 5, name), isSmallLetter(b) ? 3 : NONE);
                Checks.is("4: small letters: trouble() of byte " + b, x.trouble(), isSmallLetter(b) ? 0 : 2);
                Checks.is("4: small letters: the tape of byte " + b, x.count(6), 0);
            }
        }
        for (String bad : new String[] {"`dale", "dale{", "Dale", "da le", "dale\n", "dal3", "d,", ";", "\u0161dale", "dale\0"}) {
            fed(bad).refusesAndEmpties("4: 2 (no name): " + bad, 2, x -> x.village(0, 5, bad.length()));
        }
        for (String there : new String[] {"ashby", "bray", "cam"}) {
            fed(there).refusesAndEmpties("4: 5: " + there, 5, x -> x.village(0, 200, there.length()));
            fed(there).refusesAndEmpties("4: 5 in another HUNDRED: " + there, 5, x -> x.village(1, 0, there.length()));
        }
        for (String other : new String[] {"ashb", "ashbya", "shby", "ashbz", "bshby", "odo", "hugh", "in", "has", "hides"}) {
            TOLD.allows("4: another name: " + other, 3, x -> Checks.village(x, 0, 5, other));
        }
    }

    /** So many villages in all, of which three were there ahead of these. */
    private static Scene villages(int many) {
        Scene scene = TOLD;
        for (int i = 3; i < many; i++) {
            int number = i;
            scene = scene.with(x -> Checks.village(x, 1, 7, numbered(number)));
        }
        return scene;
    }

    private static void villagesRoom() {
        villages(29).fed("dale").allows("4: VILLAGES 30: the 30th", 29, x -> x.village(1, 200, 4));
        villages(30).fed("dale").refusesAndEmpties("4: 3: a 31st", 3, x -> x.village(1, 200, 4));
        villages(31).fed("dale").refusesAndEmpties("4: 3: once more", 3, x -> x.village(0, 0, 4));
        villages(29).allows("4: the 30th, of 10 letters", 29, x -> Checks.village(x, 1, 200, letters(10)));
        villages(29).with(x -> Checks.village(x, 1, 200, letters(10))).allows("4: it is found", 29, x -> Checks.find(x, letters(10), false));
        villages(30).answers("4: VILLAGES 30", 30, x -> x.count(1));
        villages(30).allows("4: the 30th is found", 29, x -> Checks.find(x, numbered(29), false));
        villages(30).answers("4: the 30th is asked of", 0, x -> x.claimed(29));
    }

    private static void villagesTroublesInOrder() {
        fed("ashby").refuses("4: 1 ahead of 2 (n)", 1, x -> x.village(2, 5, 21));
        fed("ashby").refuses("4: 1 ahead of 2 (HIDES)", 1, x -> x.village(2, 201, 5));
        fed("Ashby").refuses("4: 1 ahead of 2 (no name)", 1, x -> x.village(-1, 5, 5));
        fed("ashby").refuses("4: 1 ahead of 5", 1, x -> x.village(-1, 5, 5));
        fed("Ashby").refuses("4: 2 (HIDES) ahead of 2 (no name)", 2, x -> x.village(0, -1, 5));
        fed("ashby").refuses("4: 2 (HIDES) ahead of 5", 2, x -> x.village(0, 201, 5));
        fed("ashby").refuses("4: 2 (HIDES) ahead of no letter", 2, x -> x.village(0, 201, 0));
        fed("ashby").refuses("4: 2 (n) with 2 (HIDES)", 2, x -> x.village(0, 201, 21));
        Scene full = villages(30);
        full.fed("dale").refuses("4: 1 ahead of 3", 1, x -> x.village(2, 5, 4));
        full.fed("dale").refuses("4: 2 (n) ahead of 3", 2, x -> x.village(0, 5, 21));
        full.fed("dale").refuses("4: 2 (HIDES) ahead of 3", 2, x -> x.village(0, 201, 4));
        full.fed("Dale").refusesAndEmpties("4: 2 (no name) ahead of 3", 2, x -> x.village(0, 5, 4));
        full.fed("ashby").refusesAndEmpties("4: 5 ahead of 3", 5, x -> x.village(0, 5, 5));
        full.fed(numbered(29)).refusesAndEmpties("4: 5 of the last ahead of 3", 5, x -> x.village(0, 5, 3));
    }

    private static void lordsOverlord() {
        for (int bad : outsideAndNoKing(3)) {
            fed("emma").refuses("5: NONE: 1, " + bad, 1, x -> x.lord(bad, 4));
        }
        fed("emma").allows("5: OVERLORD (-1: the king)", 3, x -> x.lord(-1, 4));
        fed("emma").allows("5: OVERLORD, the first", 3, x -> x.lord(0, 4));
        fed("emma").allows("5: OVERLORD, the last", 3, x -> x.lord(2, 4));
        Checks.is("5: of the king", fed("emma").with(x -> x.lord(-1, 4)).made().top(3), 3);
        Checks.is("5: of the last", fed("emma").with(x -> x.lord(2, 4)).made().under(2), 1);
        NEW.fed("emma").refuses("5: NONE: 1 without LORDS", 1, x -> x.lord(0, 4));
        NEW.fed("emma").allows("5: the first of all", 0, x -> x.lord(-1, 4));
    }

    private static void lordsBytes() {
        for (int bad : new int[] {-1, 21, 22, 400, 401, LEAST, MOST}) {
            fed("emma").refuses("5: 2 (n), which leaves the tape, " + bad, 2, x -> x.lord(-1, bad));
        }
        TOLD.refuses("5: 2 (n) of an empty tape", 2, x -> x.lord(0, 1));
        fed(letters(400)).refuses("5: 2 (n) of a full tape", 2, x -> x.lord(-1, 401));
        fed(letters(400)).refusesAndEmpties("5: all bytes of a full tape are no name", 2, x -> x.lord(-1, 400));
        fed("emma").refusesAndEmpties("5: all bytes of the tape, blanks too, are no name", 2, x -> x.lord(-1, 20));
        fed("emma").allows("5: the first n bytes alone", 3, x -> x.lord(-1, 3));
        Checks.is("5: the tape is empty then", fed("emma").with(x -> x.lord(-1, 3)).made().count(6), 0);
        fed("emma").with(x -> x.lord(-1, 3)).allows("5: they are its name", 3, x -> Checks.find(x, "emm", true));
        fed("emma").with(x -> x.lord(-1, 3)).allows("5: more aren't", -2, x -> Checks.find(x, "emma", true));
    }

    private static void lordsName() {
        TOLD.refusesAndEmpties("5: 2 (no name): no letter of an empty tape", 2, x -> x.lord(-1, 0));
        fed("emma").refusesAndEmpties("5: 2 (no name): no letter", 2, x -> x.lord(-1, 0));
        for (int many = 1; many <= 10; many++) {
            String name = letters(many);
            TOLD.allows("5: 1 to 10 small letters: " + name, 3, x -> Checks.lord(x, -1, name));
            TOLD.with(x -> Checks.lord(x, 2, name)).allows("5: found by " + name, 3, x -> Checks.find(x, name, true));
        }
        for (int many : new int[] {11, 12, 20, 21, 40, 399}) {
            fed(letters(many)).refusesAndEmpties("5: 2 (no name): letters: " + many, 2, x -> x.lord(-1, many));
        }
        for (int b = 0; b < 256; b++) {
            KingdomSurvey x = TOLD.made();
            Checks.is("5: small letters: byte " + b, Checks.lord(x, -1, "e" + (char) b), isSmallLetter(b) ? 3 : NONE);
            Checks.is("5: small letters: trouble() of byte " + b, x.trouble(), isSmallLetter(b) ? 0 : 2);
            Checks.is("5: small letters: the tape of byte " + b, x.count(6), 0);
        }
        for (String bad : new String[] {"`emma", "emma{", "Emma", "em ma", "emma\n", "emm4", ",", "e;"}) {
            fed(bad).refusesAndEmpties("5: 2 (no name): " + bad, 2, x -> x.lord(0, bad.length()));
        }
        for (String there : new String[] {"odo", "hugh", "wace"}) {
            fed(there).refusesAndEmpties("5: 5: " + there, 5, x -> x.lord(-1, there.length()));
            fed(there).refusesAndEmpties("5: 5 under another one: " + there, 5, x -> x.lord(2, there.length()));
        }
        for (String other : new String[] {"od", "odoo", "do", "odp", "pdo", "ashby", "bray", "in", "has", "hides"}) {
            TOLD.allows("5: another name: " + other, 3, x -> Checks.lord(x, -1, other));
        }
    }

    private static Scene lords(int many) {
        Scene scene = TOLD;
        for (int i = 3; i < many; i++) {
            int number = i;
            scene = scene.with(x -> Checks.lord(x, number - 1, numbered(number)));
        }
        return scene;
    }

    private static void lordsRoom() {
        lords(15).fed("emma").allows("5: LORDS 16: the 16th", 15, x -> x.lord(14, 4));
        lords(16).fed("emma").refusesAndEmpties("5: 3: a 17th", 3, x -> x.lord(-1, 4));
        lords(16).fed("emma").refusesAndEmpties("5: 3: a 17th under the last", 3, x -> x.lord(15, 4));
        lords(15).allows("5: the 16th, of 10 letters", 15, x -> Checks.lord(x, 14, letters(10)));
        lords(15).with(x -> Checks.lord(x, 14, letters(10))).allows("5: it is found", 15, x -> Checks.find(x, letters(10), true));
        lords(16).answers("5: LORDS 16", 16, x -> x.count(2));
        lords(16).allows("5: the 16th is found", 15, x -> Checks.find(x, numbered(15), true));
        lords(16).answers("5: the 16th is asked of", 0, x -> x.top(15));
        lords(16).allows("5: the 16th tells", 2, x -> Checks.told(x, 15, "in bray " + numbered(15) + " has 1 was"));
    }

    private static void lordsTroublesInOrder() {
        fed("odo").refuses("5: 1 ahead of 2 (n)", 1, x -> x.lord(3, 21));
        fed("Odo").refuses("5: 1 ahead of 2 (no name)", 1, x -> x.lord(-2, 3));
        fed("odo").refuses("5: 1 ahead of 5", 1, x -> x.lord(3, 3));
        fed("odo").refuses("5: 2 (n) ahead of 5", 2, x -> x.lord(-1, -1));
        Scene full = lords(16);
        full.fed("emma").refuses("5: 1 ahead of 3", 1, x -> x.lord(16, 4));
        full.fed("emma").refuses("5: 2 (n) ahead of 3", 2, x -> x.lord(15, 21));
        full.fed("Emma").refusesAndEmpties("5: 2 (no name) ahead of 3", 2, x -> x.lord(-1, 4));
        full.fed("odo").refusesAndEmpties("5: 5 ahead of 3", 5, x -> x.lord(-1, 3));
        full.fed(numbered(15)).refusesAndEmpties("5: 5 of the last ahead of 3", 5, x -> x.lord(-1, 3));
    }

    private static void holdsOfNoneSuch() {
        for (int bad : outside(3)) {
            fed("ashby").refuses("6: false: 1 (a LORD), " + bad, 1, x -> Scene.yes(x.holds(bad, 0)));
            fed("ashby").refuses("6: false: 1 (a LORD, of the king), " + bad, 1, x -> Scene.yes(x.holds(bad, -1)));
            fed("ashby").refuses("6: false: 1 ahead of 5, " + bad, 1, x -> Scene.yes(x.holds(bad, bad)));
        }
        for (int bad : outsideAndNoKing(3)) {
            fed("ashby").refuses("6: false: 1 (another one), " + bad, 1, x -> Scene.yes(x.holds(2, bad)));
        }
        NEW.refuses("6: false: 1 without LORDS", 1, x -> Scene.yes(x.holds(0, 0)));
    }

    private static void holdsOfItself() {
        int[][] circles = {{0, 0}, {1, 1}, {2, 2}, {0, 1}, {0, 2}, {1, 2}};
        for (int[] c : circles) {
            fed("ashby").refuses("6: 5: never of one who holds of it, " + c[0] + " of " + c[1], 5, x -> Scene.yes(x.holds(c[0], c[1])));
        }
        for (int lowest : new int[] {1, 2, 14, 15}) {
            lords(16).refuses("6: 5 in a chain of 16, 0 of " + lowest, 5, x -> Scene.yes(x.holds(0, lowest)));
        }
        lords(16).refuses("6: 5 at the chain's end", 5, x -> Scene.yes(x.holds(14, 15)));
        lords(16).allows("6: the last of the first", 1, x -> Scene.yes(x.holds(15, 0)));
        Scene cut = lords(16).with(x -> Scene.yes(x.holds(8, -1)));
        cut.allows("6: it doesn't hold of it from now on", 1, x -> Scene.yes(x.holds(0, 15)));
        cut.refuses("6: 5 in the lower half", 5, x -> Scene.yes(x.holds(8, 15)));
        cut.refuses("6: 5 in the upper half", 5, x -> Scene.yes(x.holds(0, 7)));
    }

    private static void holdsOfOthers() {
        TOLD.allows("6: of another one", 1, x -> Scene.yes(x.holds(2, 0)));
        TOLD.allows("6: -1: the king", 1, x -> Scene.yes(x.holds(2, -1)));
        TOLD.allows("6: of the one it holds of", 1, x -> Scene.yes(x.holds(2, 1)));
        TOLD.allows("6: of the king, of whom it holds", 1, x -> Scene.yes(x.holds(0, -1)));
        Checks.is("6: from now on", TOLD.with(x -> Scene.yes(x.holds(2, 0))).made().under(1), 0);
        Checks.is("6: its own go with it", TOLD.with(x -> Scene.yes(x.holds(1, -1))).made().top(2), 1);
        Checks.is("6: the tape stays", fed("ashby").with(x -> Scene.yes(x.holds(1, -1))).made().count(6), 20);
    }

    private static void swornByNoneSuch() {
        for (int bad : outside(2)) {
            fed(ENTRY).refuses("7: NONE: 1, which leaves THE TAPE, " + bad, 1, x -> x.sworn(bad, 24));
        }
        fed(ENTRY).allows("7: A jury's RETURN: its number", 2, x -> x.sworn(0, 24));
        Checks.is("7: the tape is empty then", fed(ENTRY).with(x -> x.sworn(0, 24)).made().count(6), 0);
        TOLD.allows("7: the last HUNDRED's", 2, x -> Checks.sworn(x, 1, "in bray odo has 1 hides"));
    }

    private static void swornBytes() {
        for (int bad : new int[] {-1, 41, 42, 400, 401, LEAST, MOST}) {
            fed(ENTRY).refuses("7: 2 (n; both leave THE TAPE), " + bad, 2, x -> x.sworn(0, bad));
        }
        TOLD.refuses("7: 2 (n) of an empty tape", 2, x -> x.sworn(0, 1));
        TOLD.findsFault("7: no byte of an empty tape", 1, 0, x -> x.sworn(0, 0));
        fed(ENTRY).findsFault("7: no byte", 1, 0, x -> x.sworn(0, 0));
        fed(ENTRY).findsFault("7: a byte less", 1, 19, x -> x.sworn(0, 23));
        fed(ENTRY).allows("7: all bytes of the tape", 2, x -> x.sworn(0, 40));
    }

    private static void toldByNoneSuch() {
        for (int bad : outside(3)) {
            fed(ENTRY).refuses("8: NONE: 1, which leaves THE TAPE, " + bad, 1, x -> x.told(bad, 24));
        }
        for (int lord = 0; lord < 3; lord++) {
            int l = lord;
            fed(ENTRY).allows("8: A LORD's RETURN: its number", 2, x -> x.told(l, 24));
            Checks.is("8: the tape is empty then", fed(ENTRY).with(x -> x.told(l, 24)).made().count(6), 0);
        }
    }

    private static void toldBytes() {
        for (int bad : new int[] {-1, 41, 42, 400, 401, LEAST, MOST}) {
            fed(ENTRY).refuses("8: 2 (n; both leave THE TAPE), " + bad, 2, x -> x.told(0, bad));
        }
        TOLD.refuses("8: 2 (n) of an empty tape", 2, x -> x.told(0, 1));
        TOLD.findsFault("8: no byte of an empty tape", 1, 0, x -> x.told(0, 0));
        fed(ENTRY).findsFault("8: no byte", 1, 0, x -> x.told(0, 0));
        fed(ENTRY).findsFault("8: a byte less", 1, 19, x -> x.told(0, 23));
        fed(ENTRY).allows("8: all bytes of the tape", 2, x -> x.told(0, 40));
    }

    private static void textsWithFaults() {
        String[] texts = {ENTRY + ".", ENTRY + ";in x", ENTRY + ",2 hides", Checks.times(20, SHORT).substring(0, 398)};
        int[][] due = {{1, 24}, {2, 28}, {3, 27}, {1, 396}};
        for (int i = 0; i < texts.length; i++) {
            int n = texts[i].length();
            fed(texts[i]).findsFault("7: 4: none comes, " + i, due[i][0], due[i][1], x -> x.sworn(0, n));
            fed(texts[i]).findsFault("8: 4: none comes, " + i, due[i][0], due[i][1], x -> x.told(2, n));
        }
        Scene shortNames = TOLD.with(x -> Checks.village(x, 0, 0, "a")).with(x -> Checks.lord(x, -1, "b"));
        String many = Checks.times(21, "in a b has 1was");
        shortNames.fed(many).findsFault("7: 4: MANY, none comes", 4, 320, x -> x.sworn(0, 335));
        shortNames.fed(many).findsFault("8: 4: MANY, none comes", 4, 320, x -> x.told(0, 335));
        shortNames.fed(many).allows("7: twenty of them", 2, x -> x.sworn(0, 319));
        shortNames.fed(many).allows("8: twenty of them", 2, x -> x.told(0, 319));
    }

    /** So many returns in all, of which two were told ahead of these. */
    private static Scene returns(int many) {
        Scene scene = TOLD;
        for (int i = 2; i < many; i++) {
            boolean jury = i % 2 == 0;
            scene = scene.with(x -> jury ? Checks.sworn(x, 0, SHORT) : Checks.told(x, 1, SHORT));
        }
        return scene;
    }

    private static void roomForReturns() {
        returns(19).fed(ENTRY).allows("7: RETURNS 20: the 20th", 19, x -> x.sworn(0, 24));
        returns(19).fed(ENTRY).allows("8: RETURNS 20: the 20th", 19, x -> x.told(0, 24));
        returns(20).fed(ENTRY).hasNoRoomFor("7: 3 (RETURNS): a 21st", x -> x.sworn(0, 24));
        returns(20).fed(ENTRY).hasNoRoomFor("8: 3 (RETURNS): a 21st", x -> x.told(0, 24));
        returns(20).with(x -> Checks.sworn(x, 0, "in x")).fed(ENTRY).hasNoRoomFor("7: 3 behind a FAULT", x -> x.sworn(0, 24));
        returns(20).with(x -> Checks.sworn(x, 0, "in x")).fed(ENTRY).hasNoRoomFor("8: 3 behind a FAULT", x -> x.told(0, 24));
        returns(20).answers("7: RETURNS 20", 20, x -> x.count(3));
        returns(20).answers("7: the 20th is asked of", 1, x -> x.returned(19, 2));
    }

    /** So many entries in all in no more returns than there must be; four were told ahead of these. */
    private static Scene entries(int many) {
        Scene scene = TOLD.with(x -> Checks.village(x, 0, 0, "a")).with(x -> Checks.lord(x, -1, "b"));
        for (int left = many - 4; left > 0; left -= 20) {
            String text = Checks.times(Math.min(left, 20), "in a b has 1was");
            scene = scene.with(x -> Checks.sworn(x, 0, text));
        }
        return scene.with(x -> Checks.sworn(x, 0, "in x"));
    }

    private static Scene.Step swornTimes(int many) {
        String text = Checks.times(many, "in a b has 2was");
        return x -> Checks.sworn(x, 0, text);
    }

    private static Scene.Step toldTimes(int many) {
        String text = Checks.times(many, "in a b has 2was");
        return x -> Checks.told(x, 0, text);
    }

    private static void roomForEntries() {
        int[][] fit = {{149, 1}, {148, 2}, {131, 19}, {130, 20}};
        for (int[] f : fit) {
            Scene scene = entries(f[0]);
            int number = scene.made().count(3);
            scene.allows("7: ENTRIES 150: " + f[0] + " and " + f[1], number, swornTimes(f[1]));
            scene.allows("8: ENTRIES 150: " + f[0] + " and " + f[1], number, toldTimes(f[1]));
            scene.with(swornTimes(f[1])).answers("7: ENTRIES 150", 150, x -> x.count(4));
            scene.with(toldTimes(f[1])).answers("8: the 150th", 2, x -> x.entry(149, 4));
        }
        int[][] tooMany = {{150, 1}, {149, 2}, {131, 20}, {150, 20}};
        for (int[] t : tooMany) {
            entries(t[0]).hasNoRoomFor("7: 3 (ENTRIES: none comes): " + t[0] + " and " + t[1], swornTimes(t[1]));
            entries(t[0]).hasNoRoomFor("8: 3 (ENTRIES: none comes): " + t[0] + " and " + t[1], toldTimes(t[1]));
        }
    }

    private static void textsTroublesInOrder() {
        fed(ENTRY).refuses("7: 1 ahead of 2", 1, x -> x.sworn(2, 41));
        fed("in x").refuses("7: 1 ahead of 4", 1, x -> x.sworn(-1, 4));
        fed("in x").refuses("7: 2 ahead of 4", 2, x -> x.sworn(0, 21));
        fed(ENTRY).refuses("8: 1 ahead of 2", 1, x -> x.told(3, 41));
        fed("in x").refuses("8: 1 ahead of 4", 1, x -> x.told(-1, 4));
        fed("in x").refuses("8: 2 ahead of 4", 2, x -> x.told(0, -1));
        Scene full = returns(20);
        full.fed(ENTRY).refuses("7: 1 ahead of 3", 1, x -> x.sworn(2, 24));
        full.fed(ENTRY).refuses("7: 2 ahead of 3", 2, x -> x.sworn(0, 41));
        full.fed(ENTRY).findsFault("7: 4 ahead of 3 (RETURNS)", 1, 19, x -> x.sworn(0, 23));
        full.fed(ENTRY).refuses("8: 1 ahead of 3", 1, x -> x.told(3, 24));
        full.fed(ENTRY).refuses("8: 2 ahead of 3", 2, x -> x.told(0, 41));
        full.fed(ENTRY).findsFault("8: 4 ahead of 3 (RETURNS)", 1, 19, x -> x.told(0, 23));
        Scene noEntries = entries(149);
        noEntries.fed(Checks.times(2, SHORT)).findsFault("7: 4 ahead of 3 (ENTRIES)", 1, 36, x -> x.sworn(0, 38));
        noEntries.fed(Checks.times(2, SHORT)).findsFault("8: 4 ahead of 3 (ENTRIES)", 1, 36, x -> x.told(0, 38));
        entries(140).fed(Checks.times(21, "in a b has 2was")).findsFault("7: 4 (MANY) ahead of 3 (ENTRIES)", 4, 320, x -> x.sworn(0, 335));
    }

    private static void faultOfTheLatestText() {
        Checks.is("9: 0 without one ahead of any", NEW.made().fault(), 0);
        Checks.is("9: of the latest", TOLD.made().fault(), 2);
        Checks.is("9: of sworn()", TOLD.with(x -> Checks.sworn(x, 0, "in")).made().fault(), 1);
        Checks.is("9: of told()", TOLD.with(x -> Checks.told(x, 0, "in")).made().fault(), 1);
        Checks.is("9: 0 without one, sworn", TOLD.with(x -> Checks.sworn(x, 0, ENTRY)).made().fault(), 0);
        Checks.is("9: 0 without one, told", TOLD.with(x -> Checks.told(x, 0, ENTRY)).made().fault(), 0);
        Checks.is("9: not refused by 1: sworn", fed(ENTRY).with(x -> x.sworn(2, 24)).made().fault(), 2);
        Checks.is("9: not refused by 1: told", fed(ENTRY).with(x -> x.told(3, 24)).made().fault(), 2);
        Checks.is("9: not refused by 2: sworn", fed(ENTRY).with(x -> x.sworn(0, 41)).made().fault(), 2);
        Checks.is("9: not refused by 2: told", fed(ENTRY).with(x -> x.told(0, 41)).made().fault(), 2);
        Scene good = TOLD.with(x -> Checks.sworn(x, 0, ENTRY));
        Checks.is("9: a refusal by 1 brings none", good.with(x -> x.sworn(9, 0)).made().fault(), 0);
        Checks.is("9: a refusal by 2 brings none", good.with(x -> x.told(0, 9)).made().fault(), 0);
        Checks.is("9: other calls leave it", TOLD.with(x -> Checks.village(x, 0, 1, "dale")).made().fault(), 2);
        TOLD.answersAndLeavesAll("9: asking changes nothing", 2, KingdomSurvey::fault);
    }

    private static void whereOfTheLatestRefusal() {
        Checks.is("10: NONE ahead of any", NEW.made().where(), NONE);
        TOLD.answersAndLeavesAll("10: Its place", 3, KingdomSurvey::where);
        Checks.is("10: a place of 0", TOLD.with(x -> Checks.told(x, 0, "on")).made().where(), 0);
        Checks.is("10: a place of 400", TOLD.fed(" ".repeat(400)).with(x -> x.sworn(0, 400)).made().where(), 400);
        Scene.Step[] mayBeRefused = {
            x -> x.hundred(), x -> Checks.village(x, 0, 1, "dale"), x -> Checks.village(x, 0, 1, "Dale"), x -> x.village(9, 0, 0),
            x -> Checks.lord(x, -1, "emma"), x -> Checks.lord(x, -1, "odo"), x -> x.lord(9, 0), x -> Scene.yes(x.holds(2, 0)),
            x -> Scene.yes(x.holds(0, 0)), x -> Scene.yes(x.holds(9, 0)), x -> Checks.sworn(x, 0, ENTRY), x -> x.sworn(9, 0),
            x -> x.sworn(0, 9), x -> Checks.told(x, 0, ENTRY), x -> x.told(9, 0), x -> x.told(0, 9), x -> x.find(0, true),
            x -> Checks.find(x, "odo", true), x -> x.find(9, true), x -> x.fall(0), x -> x.fall(9), x -> x.lay(0, 0), x -> x.lay(9, 0),
            x -> Scene.yes(x.rates(0, 0, 0, 0)), x -> Scene.yes(x.rates(-1, 0, 0, 0)), x -> x.raised(0), x -> x.raised(-1), x -> x.raised(MOST)};
        for (int i = 0; i < mayBeRefused.length; i++) {
            Checks.is("10: NONE else, " + i, TOLD.with(mayBeRefused[i]).made().where(), NONE);
        }
        for (int i = 0; i < mayBeRefused.length; i++) {
            Checks.is("10: a place behind one of them, " + i, TOLD.with(mayBeRefused[i]).with(Scene.NEXT_FAULT).made().where(), 5);
        }
    }

    private static void findBytes() {
        for (int bad : new int[] {-1, 21, 22, 400, 401, LEAST, MOST}) {
            fed("ashby").refuses("13: NONE (2: n, which leaves THE TAPE), " + bad, 2, x -> x.find(bad, false));
            fed("odo").refuses("13: NONE (2: n, which leaves THE TAPE), a LORD, " + bad, 2, x -> x.find(bad, true));
        }
        TOLD.refuses("13: NONE (2: n) of an empty tape", 2, x -> x.find(1, false));
        fed(letters(400)).refuses("13: NONE (2: n) of a full tape", 2, x -> x.find(401, true));
        fed(letters(400)).allows("13: all bytes of a full tape", -2, x -> x.find(400, true));
        TOLD.allows("13: no byte", -2, x -> x.find(0, false));
        fed("ashby").allows("13: no byte of some", -2, x -> x.find(0, true));
        Checks.is("13: the tape is empty then", fed("ashby").with(x -> x.find(5, false)).made().count(6), 0);
        Checks.is("13: the tape is empty without one too", fed("ashby").with(x -> x.find(4, false)).made().count(6), 0);
    }

    private static void findNames() {
        String[] villages = {"ashby", "bray", "cam"};
        String[] lords = {"odo", "hugh", "wace"};
        for (int i = 0; i < 3; i++) {
            int number = i;
            TOLD.allows("13: The VILLAGE of a name", number, x -> Checks.find(x, villages[number], false));
            TOLD.allows("13: The LORD of a name", number, x -> Checks.find(x, lords[number], true));
            TOLD.allows("13: -2: no LORD but a VILLAGE", -2, x -> Checks.find(x, villages[number], true));
            TOLD.allows("13: -2: no VILLAGE but a LORD", -2, x -> Checks.find(x, lords[number], false));
        }
        for (String none : new String[] {"ashb", "ashbyy", "Ashby", "ashby ", " ashby", "shby", "a", "z", letters(10), letters(11), "\0", "ashb\u00f9"}) {
            TOLD.allows("13: -2 if there is none: " + none, -2, x -> Checks.find(x, none, false));
            TOLD.allows("13: -2 if there is none, a LORD: " + none, -2, x -> Checks.find(x, none, true));
        }
        fed("ashby").allows("13: the first n bytes", 0, x -> x.find(5, false));
        fed("ashby").allows("13: blanks are no letters", -2, x -> x.find(6, false));
    }
}
