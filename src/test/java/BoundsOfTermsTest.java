/**
 * The sentences of the document's Terms that name a boundary and that no single promise tells: TOKENS, the form
 * of a TEXT, FAULTS 1 to 4, LAID, TAX downwards. The BOUNDS of I and TROUBLE of V are tested with the promises.
 */
public final class BoundsOfTermsTest {
    private static final int NONE = KingdomSurvey.NONE;
    private static final String ENTRY = "in ashby odo has 1 hides";
    private static final String[] THINGS = {"hides", "ploughs", "mills", "worth", "was"};

    /** Two hundreds; ashby and a in the first, bray in the second; lords odo, hugh and b. */
    private static final Scene SETTLED = new Scene()
            .with(2, KingdomSurvey::hundred)
            .with(x -> Checks.village(x, 0, 5, "ashby"))
            .with(x -> Checks.village(x, 1, 3, "bray"))
            .with(x -> Checks.village(x, 0, 0, "a"))
            .with(x -> Checks.lord(x, -1, "odo"))
            .with(x -> Checks.lord(x, 0, "hugh"))
            .with(x -> Checks.lord(x, -1, "b"));

    public static void main(String[] args) {
        bytesBetweenTokens();
        bytesBehindTokens();
        bytesAheadOfTokens();
        blanksMeanNothingElse();
        lengthsOfWords();
        lengthsOfNumbers();
        textsCutShort();
        tokensWithWhichNoTextGoesOn();
        theEndsPlace();
        theFirstFaultFromTheLeft();
        wordsThatAreNone();
        villagesOfAnotherHundred();
        thingsOnceInAnEntry();
        thingsThatArentTold();
        entriesOfOneText();
        textsThatFillTheTape();
        numbersByTheOrder();
        laidAsManyAsCanBe();
        laidWithTheLeastDifference();
        laidWithTheLesserClaims();
        shareDownwards();
        ratesAgainstShare();
        shareAtFirst();
        Checks.finish();
    }

    /** No fault, by a jury and by a lord. */
    private static void good(String sentence, String text) {
        int n = text.length();
        SETTLED.fed(text).allows(sentence + ", sworn: " + text, 0, x -> x.sworn(0, n));
        SETTLED.fed(text).allows(sentence + ", told: " + text, 0, x -> x.told(1, n));
        Checks.is(sentence + ", no FAULT: " + text, SETTLED.fed(text).with(x -> x.sworn(0, n)).made().fault(), 0);
    }

    private static void faulty(String sentence, String text, int fault, int place) {
        int n = text.length();
        SETTLED.fed(text).findsFault(sentence + ", sworn: " + text, fault, place, x -> x.sworn(0, n));
        SETTLED.fed(text).findsFault(sentence + ", told: " + text, fault, place, x -> x.told(1, n));
    }

    /** Place NONE: no fault. */
    private static void placeOf(String sentence, String text, int place) {
        if (place == NONE) {
            good(sentence, text);
        } else {
            faulty(sentence, text, 1, place);
        }
    }

    private static boolean isLetter(int b) {
        return b >= 'a' && b <= 'z';
    }

    private static boolean isBlank(int b) {
        return b == 32 || b == 10;
    }

    private static void bytesBetweenTokens() {
        for (int b = 0; b < 256; b++) {
            int place = isBlank(b) ? NONE : isLetter(b) ? 0 : 2;
            placeOf("II: blanks, 32, and 10s part TOKENS: byte " + b, "in" + (char) b + "ashby odo has 1 hides", place);
        }
        for (int b = 0; b < 256; b++) {
            boolean digit = b >= '0' && b <= '9';
            placeOf("II: behind a digit: byte " + b, "in ashby odo has 1" + (char) b + " hides", isBlank(b) || digit ? NONE : 18);
        }
    }

    private static void bytesBehindTokens() {
        for (int b = 0; b < 256; b++) {
            int place = isBlank(b) ? NONE : isLetter(b) ? 19 : b == ',' || b == ';' ? 25 : 24;
            placeOf("II: behind the last TOKEN: byte " + b, ENTRY + (char) b, place);
        }
    }

    private static void bytesAheadOfTokens() {
        for (int b = 0; b < 256; b++) {
            placeOf("II: ahead of the first TOKEN: byte " + b, (char) b + ENTRY, isBlank(b) ? NONE : 0);
            placeOf("II: the first byte that begins no TOKEN: byte " + b, " " + (char) b + " " + ENTRY, isBlank(b) ? NONE : 1);
        }
    }

    private static void blanksMeanNothingElse() {
        good("II: no blank where none must be", "in ashby odo has 1hides,2mills;in ashby odo has 3was");
        good("II: many blanks", "  in   ashby  \n\n odo \n has\n1\n hides\n ,\n 2 mills ; \n in ashby odo has 3 was \n\n ");
        good("II: 10s alone", "\nin\nashby\nodo\nhas\n1\nhides\n");
        faulty("II: blanks part a WORD", "in ash by odo has 1 hides", 2, 3);
        faulty("II: blanks part a NUMBER", "in ashby odo has 1 0 hides", 1, 19);
        faulty("II: blanks part a THING", "in ashby odo has 1 hi des", 1, 19);
    }

    private static void lengthsOfWords() {
        String ten = "abcdefghij";
        Scene named = SETTLED.with(x -> Checks.village(x, 0, 0, ten)).with(x -> Checks.lord(x, -1, ten));
        String text = "in " + ten + " " + ten + " has 1 hides";
        named.allows("II: WORDS of 10 small letters", 0, x -> Checks.sworn(x, 0, text));
        named.findsFault("II: a VILLAGE's of 11", 1, 3, x -> Checks.sworn(x, 0, "in " + ten + "k " + ten + " has 1 hides"));
        named.findsFault("II: a LORD's of 11", 1, 14, x -> Checks.sworn(x, 0, "in " + ten + " " + ten + "k has 1 hides"));
        good("II: WORDS of 1 small letter", "in a b has 1 was");
        faulty("II: 10 letters that are no VILLAGE", "in " + ten + " odo has 1 hides", 2, 3);
        faulty("II: 11 letters that are no WORD", "in " + ten + "k odo has 1 hides", 1, 3);
        faulty("II: 10 letters that are no LORD", "in ashby " + ten + " has 1 hides", 2, 9);
        faulty("II: 11 letters where a LORD is to be", "in ashby " + ten + "k has 1 hides", 1, 9);
        faulty("II: 20 letters where a VILLAGE is to be", "in " + ten + ten + " odo has 1 hides", 1, 3);
        faulty("II: 11 letters where in is to be", "in" + ten + "k", 1, 0);
        faulty("II: 11 letters where has is to be", "in ashby odo has" + ten, 1, 13);
        faulty("II: 11 letters where a THING is to be", "in ashby odo has 1 hideshideshides", 1, 19);
        faulty("II: all letters of the tape", "in " + "a".repeat(397), 1, 3);
    }

    private static void lengthsOfNumbers() {
        String[] numbers = {"0", "1", "9", "00", "09", "10", "99", "000", "007", "099", "100", "127", "128", "255", "256", "999"};
        for (String number : numbers) {
            for (int thing = 0; thing < 5; thing++) {
                int t = thing;
                Scene scene = SETTLED.with(x -> Checks.sworn(x, 0, "in ashby odo has " + number + THINGS[t]));
                scene.answers("II: NUMBERS of 1 to 3 digits: " + number, Integer.parseInt(number), x -> x.entry(0, t));
            }
        }
        for (String number : new String[] {"0000", "0001", "1000", "9999", "00000", "2147483648", "4294967297"}) {
            faulty("II: a 4th digit", "in ashby odo has " + number + " hides", 1, 17);
        }
        faulty("II: a sign", "in ashby odo has -1 hides", 1, 17);
        faulty("II: a sign", "in ashby odo has +1 hides", 1, 17);
        faulty("II: all digits of the tape", "in ashby odo has " + "1".repeat(383), 1, 17);
    }

    /** For each length of the text the fault, times 100, and its place; 0 where it has none. */
    private static void textsCutShort() {
        int[] due = {
            100, 100, 102, 103, 104, 203, 203, 203, 108, 109, 209, 209, 112, 113, 113, 113, 116, 117, 118, 119, 119, 119, 119, 119,
            0, 125, 126, 126, 128, 129, 130, 131, 231, 231, 134, 135, 135, 135, 138, 139, 140, 140, 140, 0};
        String text = ENTRY + "; in a odo has 2was";
        for (int n = 0; n <= text.length(); n++) {
            if (due[n] == 0) {
                good("II: the first " + n, text.substring(0, n));
            } else {
                faulty("II: the first " + n, text.substring(0, n), due[n] / 100, due[n] % 100);
            }
        }
    }

    private static void tokensWithWhichNoTextGoesOn() {
        String[] ahead = {"", "in ", "in ashby ", "in ashby odo ", "in ashby odo has ", "in ashby odo has 1 ", "in ashby odo has 1 hides ",
            "in ashby odo has 1 hides, ", "in ashby odo has 1 hides, 2 ", "in ashby odo has 1 hides; "};
        String[] goesOn = {"in", "WORD", "WORD", "has", "1", "THING", ",;", "1", "THING", "in"};
        String[] tokens = {"in", "has", "ashby", "odo", "hides", "x", "1", "000", ",", ";", ".", "A", "1000", "abcdefghijk", "\t", "\0", "\u00ff"};
        for (int state = 0; state < ahead.length; state++) {
            for (String token : tokens) {
                if (!mayGoOn(goesOn[state], token)) {
                    faulty("II: FORM behind '" + ahead[state] + "'", ahead[state] + token + " odo 5", 1, ahead[state].length());
                }
            }
            if (state != 6) {
                faulty("II: FORM at the end behind '" + ahead[state] + "'", ahead[state], 1, ahead[state].length());
            }
        }
    }

    private static boolean mayGoOn(String due, String token) {
        boolean word = token.matches("[a-z]{1,10}");
        boolean number = token.matches("[0-9]{1,3}");
        switch (due) {
            case "WORD":
                return word;
            case "THING":
                return token.equals("hides");
            case "1":
                return number;
            case ",;":
                return token.equals(",") || token.equals(";");
            default:
                return token.equals(due);
        }
    }

    private static void theEndsPlace() {
        faulty("II: the end of nothing", "", 1, 0);
        faulty("II: the end of blanks", " \n ", 1, 3);
        faulty("II: the end behind blanks", "in \n  ", 1, 6);
        faulty("II: the end of a full tape", " ".repeat(400), 1, 400);
        faulty("II: the end of a full tape, behind a TOKEN", " ".repeat(398) + "in", 1, 400);
    }

    private static void theFirstFaultFromTheLeft() {
        faulty("II: 2 ahead of 1", "in x odo has 1000 hides", 2, 3);
        faulty("II: 1 ahead of 2", "in , x", 1, 3);
        faulty("II: 2 of a VILLAGE ahead of 2 of a LORD", "in x x has 1 hides", 2, 3);
        faulty("II: 2 ahead of 3", "in ashby x has 1 hides, 1 hides", 2, 9);
        faulty("II: 3 ahead of 2", ENTRY + ",1 hides;in x", 3, 27);
        faulty("II: 3 ahead of 1", ENTRY + ",1 hides.", 3, 27);
        faulty("II: 1 ahead of 3", ENTRY + ",1000 hides", 1, 25);
        faulty("II: 1 ahead of 1", "in ashby odo has 1 cows, 1000 cows", 1, 19);
        String twenty = Checks.times(20, "in a b has 1was");
        faulty("II: 4 ahead of 1", twenty + ";in .", 4, 320);
        faulty("II: 4 ahead of 2", twenty + ";in x", 4, 320);
        faulty("II: 4 ahead of the end", twenty + ";in", 4, 320);
        faulty("II: 1 where a 21st would be", twenty + ";on", 1, 320);
        faulty("II: 1 of a run of letters where a 21st would be", twenty + ";ina b has 1was", 1, 320);
        faulty("II: 3 in the 20th ahead of 4", twenty + ",1was;in", 3, 321);
    }

    private static void wordsThatAreNone() {
        for (String none : new String[] {"x", "ashb", "ashbyy", "shby", "odo", "hugh", "in", "has", "hides", "aa"}) {
            faulty("II: 2 a WORD that is no VILLAGE; at it", "in  " + none + " odo has 1 hides", 2, 4);
        }
        for (String none : new String[] {"x", "od", "odoo", "do", "ashby", "bray", "in", "has", "hides", "bb"}) {
            faulty("II: 2 no LORD; at it", "in ashby  " + none + " has 1 hides", 2, 10);
        }
        String late = ENTRY + ";" + ENTRY + ";in ashby x";
        faulty("II: 2 in a later ENTRY", late, 2, late.length() - 1);
        Scene words = SETTLED.with(x -> Checks.village(x, 0, 0, "in")).with(x -> Checks.lord(x, -1, "has"));
        words.allows("II: names that are WORDS of the form", 0, x -> Checks.sworn(x, 0, "in in has has 1 hides"));
    }

    private static void villagesOfAnotherHundred() {
        String other = "in bray odo has 1 hides";
        SETTLED.fed(other).findsFault("II: of VILLAGES in it alone: others are a FAULT 2", 2, 3, x -> x.sworn(0, 23));
        SETTLED.fed(other).allows("II: of VILLAGES in it", 0, x -> x.sworn(1, 23));
        SETTLED.fed(other).allows("II: told by a LORD of any VILLAGES", 0, x -> x.told(0, 23));
        SETTLED.fed(ENTRY).findsFault("II: the other way about", 2, 3, x -> x.sworn(1, 24));
        String both = ENTRY + ";" + other;
        SETTLED.fed(both).findsFault("II: a later ENTRY's", 2, 28, x -> x.sworn(0, 48));
        SETTLED.fed(both).allows("II: told by a LORD of both", 0, x -> x.told(2, 48));
        Scene empty = SETTLED.with(KingdomSurvey::hundred);
        empty.fed(ENTRY).findsFault("II: a HUNDRED without VILLAGES", 2, 3, x -> x.sworn(2, 24));
    }

    private static void thingsOnceInAnEntry() {
        for (String one : THINGS) {
            for (String other : THINGS) {
                String text = "in ashby odo has 1 " + one + ", 2 " + other;
                if (one.equals(other)) {
                    faulty("II: 3 TWICE: a THING that the ENTRY has; at its WORD", text, 3, 23 + one.length());
                } else {
                    good("II: Each once in an ENTRY", text);
                }
                good("II: once more in the next ENTRY", "in ashby odo has 1 " + one + ";in ashby odo has 2 " + other);
            }
        }
        String all = "in ashby odo has 1hides,2ploughs,3mills,4worth,5was";
        good("II: all five", all);
        for (String sixth : THINGS) {
            faulty("II: 3 TWICE: a sixth", all + ",6" + sixth, 3, all.length() + 2);
        }
        faulty("II: a sixth that is no THING", all + ",6cows", 1, all.length() + 2);
        faulty("II: no sixth", all + ",", 1, all.length() + 1);
        faulty("II: TWICE, even of 0", "in ashby odo has 0was,0was", 3, 23);
    }

    private static void thingsThatArentTold() {
        for (int thing = 0; thing < 5; thing++) {
            int told = thing;
            Scene scene = SETTLED.with(x -> Checks.sworn(x, 0, "in ashby odo has 1hides,2ploughs,3mills,4worth,5was;in ashby odo has 9" + THINGS[told]));
            for (int asked = 0; asked < 5; asked++) {
                int a = asked;
                scene.answers("II: those that aren't told are 0", a == told ? 9 : 0, x -> x.entry(1, a));
                scene.answers("II: those that are told", a + 1, x -> x.entry(0, a));
            }
        }
        Scene behind = SETTLED.with(x -> Checks.sworn(x, 0, "in ashby odo has 7hides,7mills;")).with(x -> Checks.sworn(x, 0, "in ashby odo has 9was"));
        behind.answers("II: nothing of a text with a FAULT stays", 0, x -> x.entry(0, 0));
    }

    private static void entriesOfOneText() {
        for (int many : new int[] {1, 2, 19, 20}) {
            String text = Checks.times(many, "in a b has 1was");
            good("II: TEXT: ENTRY {; ENTRY}, " + many, text);
            Scene scene = SETTLED.with(x -> Checks.sworn(x, 0, text));
            scene.answers("II: so many ENTRIES", many, x -> x.returned(0, 2));
        }
        for (int many : new int[] {21, 22, 25}) {
            faulty("II: 4 MANY: a 21st ENTRY of a TEXT; at its in, " + many, Checks.times(many, "in a b has 1was"), 4, 320);
        }
        faulty("II: 4 behind a blank", Checks.times(20, "in a b has 1was") + "; in a b has 1was", 4, 321);
    }

    private static void textsThatFillTheTape() {
        good("II: THE TAPE has 400 bytes, blanks behind", ENTRY + " ".repeat(376));
        good("II: THE TAPE has 400 bytes, blanks ahead", " ".repeat(376) + ENTRY);
        String most = Checks.times(19, "in a b has 1was") + ";" + " ".repeat(73) + "in a b has 9hides,1was";
        Checks.is("II: 399 bytes", most.length(), 399);
        good("II: THE TAPE has 400 bytes, all TEXT", most + "\n");
        faulty("II: the last byte of 400", most + ".", 1, 399);
        faulty("II: the end of 400", most + ",", 1, 400);
    }

    private static void numbersByTheOrder() {
        Scene scene = SETTLED.with(x -> Checks.told(x, 0, "in bray odo has 1hides;in a b has 2hides"))
                .with(x -> Checks.sworn(x, 0, "in x"))
                .with(x -> Checks.sworn(x, 0, "in ashby odo has 3hides"))
                .with(x -> Checks.told(x, 1, "in a b has 4hides;in x"))
                .with(x -> Checks.told(x, 1, "in a b has 5hides"));
        int[] hides = {1, 2, 3, 5};
        int[] returns = {0, 0, 1, 2};
        for (int i = 0; i < 4; i++) {
            int e = i;
            scene.answers("II: An ENTRY's number is by the order", hides[e], x -> x.entry(e, 0));
            scene.answers("II: of its RETURN", returns[e], x -> x.entry(e, 7));
        }
        scene.answers("II: NONE behind the last", NONE, x -> x.entry(4, 0));
    }

    private static String hides(int... many) {
        StringBuilder text = new StringBuilder();
        for (int h : many) {
            text.append(text.length() == 0 ? "" : ";").append("in ashby odo has ").append(h).append("hides");
        }
        return text.toString();
    }

    /** The claims come first, so the lord's entries have the numbers behind them. */
    private static void laid(String sentence, int[] claims, int[] own, int difference, String due) {
        KingdomSurvey x = SETTLED.with(y -> Checks.sworn(y, 0, hides(claims))).with(y -> Checks.told(y, 0, hides(own))).made();
        int pairs = x.lay(0, 0);
        StringBuilder got = new StringBuilder();
        for (int i = 0; i < pairs; i++) {
            got.append(i == 0 ? "" : " ").append(x.pair(i, false) - claims.length).append('-').append(x.pair(i, true));
        }
        Checks.is(sentence + ", due " + due + ", got " + got, got.toString().equals(due), true);
        Checks.is(sentence + ": difference()", x.difference(), difference);
    }

    private static int[] of(int... numbers) {
        return numbers;
    }

    private static void laidAsManyAsCanBe() {
        laid("III: one of each", of(5), of(5), 0, "0-0");
        laid("III: as many as can be, however far apart", of(0, 999), of(0, 0), 999, "0-0 1-1");
        laid("III: more CLAIMS", of(9, 5, 1), of(5), 0, "0-1");
        laid("III: more of its own", of(5), of(9, 5, 1), 0, "1-0");
        laid("III: six of each", of(1, 2, 3, 4, 5, 6), of(6, 5, 4, 3, 2, 1), 0, "0-5 1-4 2-3 3-2 4-1 5-0");
    }

    private static void laidWithTheLeastDifference() {
        laid("III: of these the least DIFFERENCE together", of(10, 20), of(12, 11), 9, "0-1 1-0");
        laid("III: not the nearest first", of(0, 4), of(3, 9), 8, "0-0 1-1");
        laid("III: one less decides", of(10, 13), of(12, 10), 1, "0-1 1-0");
        laid("III: which of its own has none", of(7, 1), of(9, 2, 8), 2, "1-1 2-0");
        laid("III: which CLAIM has none", of(9, 2, 8), of(7, 1), 2, "0-2 1-1");
        KingdomSurvey x = SETTLED.with(y -> Checks.sworn(y, 0, "in ashby odo has 1hides,20ploughs,3mills,40worth,5was"))
                .with(y -> Checks.told(y, 0, "in ashby odo has 10hides,2ploughs,30mills,4worth,50was")).made();
        x.lay(0, 0);
        Checks.is("III: how far their five THINGS lie apart, together", x.difference(), 9 + 18 + 27 + 36 + 45);
    }

    private static void laidWithTheLesserClaims() {
        laid("III: of as little the lesser CLAIMS", of(5, 5, 5), of(5, 5), 0, "0-0 1-1");
        laid("III: the first of its own first", of(4, 6), of(5, 5), 2, "0-0 1-1");
        laid("III: crossing is as little", of(3, 1), of(0, 0), 4, "0-0 1-1");
        laid("III: one without any is behind all", of(5), of(5, 5, 5), 0, "0-0");
        laid("III: one without any is behind all, in the middle", of(5, 9), of(5, 5, 9), 0, "0-0 2-1");
        laid("III: the lesser CLAIM for the first, though it is farther", of(2, 4), of(4, 6), 4, "0-0 1-1");
        laid("III: the first has one ahead of having the lesser", of(9, 5), of(5, 9, 9), 0, "0-1 1-0");
    }

    private static Scene taxed(String items, int hide, int plough, int mill, int share) {
        return SETTLED.with(x -> Checks.sworn(x, 0, "in ashby odo has " + items)).with(x -> Scene.yes(x.rates(hide, plough, mill, share)));
    }

    private static void shareDownwards() {
        int[][] due = {{0, 100, 0}, {1, 0, 0}, {1, 1, 0}, {1, 99, 0}, {1, 100, 1}, {99, 1, 0}, {100, 1, 1}, {101, 1, 1}, {199, 1, 1}, {200, 1, 2},
            {3, 50, 1}, {7, 50, 3}, {999, 99, 989}, {999, 100, 999}, {999, 1, 9}};
        for (int[] d : due) {
            taxed("999hides," + d[0] + "worth", 1000, 1000, 1000, d[1])
                    .answers("IV: " + d[1] + " hundredths of " + d[0] + ", downwards", d[2], x -> x.tax(-1));
        }
        Scene two = SETTLED.with(x -> Checks.sworn(x, 0, "in ashby odo has 9hides,1worth;in ashby odo has 9hides,1worth")).with(x -> Scene.yes(x.rates(9, 0, 0, 50)));
        two.answers("IV: downwards of each CLAIM, not together", 0, x -> x.tax(-1));
    }

    private static void ratesAgainstShare() {
        taxed("2hides,3ploughs,4mills,431worth", 1, 10, 100, 100).answers("IV: no more than SHARE", 431, x -> x.tax(0));
        taxed("2hides,3ploughs,4mills,432worth", 1, 10, 100, 100).answers("IV: as much as SHARE", 432, x -> x.tax(0));
        taxed("2hides,3ploughs,4mills,433worth", 1, 10, 100, 100).answers("IV: less than SHARE", 432, x -> x.tax(0));
        taxed("999hides,999ploughs,999mills,999worth", 1000, 1000, 1000, 100).answers("IV: the most of all", 999, x -> x.tax(0));
        taxed("999hides,999ploughs,999mills,999worth", 1000, 1000, 1000, 100).allows("IV: RAISED upon the most", 0, x -> x.raised(999));
        taxed("999hides,999ploughs,999mills,999worth", 1000, 1000, 1000, 100).allows("IV: RAISED beyond the most", -2, x -> x.raised(1000));
        taxed("9hides,9ploughs,9mills", 1000, 1000, 1000, 100).answers("IV: a CLAIM worth nothing", 0, x -> x.tax(0));
        taxed("9worth,9was", 1000, 1000, 1000, 100).answers("IV: a CLAIM of nothing that is taxed", 0, x -> x.tax(0));
    }

    private static void shareAtFirst() {
        Scene scene = SETTLED.with(x -> Checks.sworn(x, 0, "in ashby odo has 1hides,7worth"));
        scene.answers("IV: RATES at first", 0, x -> x.tax(-1));
        scene.allows("IV: SHARE 100 at first", 7, x -> x.raised(7));
        scene.allows("IV: no more than 100 at first", -2, x -> x.raised(8));
    }
}
