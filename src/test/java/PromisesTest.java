/** Each promise of the document: ordinary inputs, the edges that it names, and wrong inputs. */
public final class PromisesTest {
    private static final int NONE = KingdomSurvey.NONE;
    private static final int LEAST = Integer.MIN_VALUE;
    private static final int MOST = Integer.MAX_VALUE;

    public static void main(String[] args) {
        newObject();
        hundred();
        feed();
        village();
        lord();
        holds();
        sworn();
        told();
        faultsOfForm();
        faultsOfTokens();
        faultsOfNames();
        faultsTwiceAndMany();
        faultAndWhere();
        roomOfReturnsAndEntries();
        entry();
        returned();
        find();
        claimedAndOver();
        fall();
        fallOfAsFew();
        falls();
        silence();
        lay();
        layOfAsLittle();
        layOfFirstSix();
        differenceAndPair();
        held();
        underAndTop();
        greatest();
        sum();
        rates();
        tax();
        raised();
        spared();
        worse();
        led();
        count();
        trouble();
        Checks.finish();
    }

    /** Two hundreds; ashby (5 hides) in the first, bray (3 hides) in the second; odo, hugh under odo, wace under hugh. */
    private static KingdomSurvey kingdom() {
        KingdomSurvey x = new KingdomSurvey();
        x.hundred();
        x.hundred();
        Checks.village(x, 0, 5, "ashby");
        Checks.village(x, 1, 3, "bray");
        Checks.lord(x, -1, "odo");
        Checks.lord(x, 0, "hugh");
        Checks.lord(x, 1, "wace");
        return x;
    }

    private static void is(String call, long got, long due) {
        Checks.is(call, got, due);
    }

    private static void is(String call, boolean got, boolean due) {
        Checks.is(call, got, due);
    }

    private static String letters(int n) {
        return n < 26 ? "" + (char) ('a' + n) : "z" + (char) ('a' + n - 26);
    }

    private static void newObject() {
        KingdomSurvey x = new KingdomSurvey();
        for (int what = 0; what <= 6; what++) {
            is("1: count of a new object", x.count(what), 0);
        }
        is("1: NONE", KingdomSurvey.NONE, -1);
        is("1: trouble", x.trouble(), 0);
        is("1: fault", x.fault(), 0);
        is("1: where", x.where(), NONE);
        is("1: difference", x.difference(), NONE);
        is("1: pair", x.pair(0, true), NONE);
        is("1: falls", x.falls(0), NONE);
        is("1: over", x.over(), 0);
        is("1: silent", x.silent(), 0);
        is("1: spared", x.spared(), 0);
        is("1: tax", x.tax(-1), 0);
        is("1: entry", x.entry(0, 0), NONE);
        is("1: returned", x.returned(0, 2), NONE);
        is("1: led", x.led(0), NONE);
        is("1: greatest", x.greatest(4), -2);
        is("1: two objects are apart", x.hundred() + new KingdomSurvey().hundred(), 0);
    }

    private static void hundred() {
        KingdomSurvey x = new KingdomSurvey();
        for (int i = 0; i < 8; i++) {
            is("2: hundred", x.hundred(), i);
            is("2: trouble", x.trouble(), 0);
        }
        is("2: a ninth", x.hundred(), NONE);
        is("2: its trouble", x.trouble(), 3);
        is("2: count", x.count(0), 8);
    }

    private static void feed() {
        KingdomSurvey x = new KingdomSurvey();
        x.hundred();
        for (int i = 1; i <= 20; i++) {
            is("3: feed", x.feed(1633837924, 0, -1, 0, 0), 20 * i);
        }
        is("3: more than 400", x.feed(0, 0, 0, 0, 0), NONE);
        is("3: none comes", x.count(6), 400);
        is("3: the highest byte first", x.village(0, 0, 4), 0);
        is("3: abcd", Checks.find(x, "abcd", false), 0);
        is("3: bytes behind one another", x.feed(1633837924, 1701209960, 1768515945, 0, 0), 20);
        is("3: abcdefghii", x.village(0, 0, 10), 1);
        is("3: abcdefghii is found", Checks.find(x, "abcdefghii", false), 1);
        KingdomSurvey y = new KingdomSurvey();
        y.hundred();
        y.lord(0, 0);
        is("3: trouble ahead", y.trouble(), 1);
        y.feed(0, 0, 0, 0, 0);
        is("3: feed has no trouble of its own", y.trouble(), 1);
    }

    private static void village() {
        KingdomSurvey x = new KingdomSurvey();
        Checks.put(x, "ashby");
        is("4: no hundred yet", x.village(0, 0, 5), NONE);
        is("4: trouble", x.trouble(), 1);
        x.hundred();
        for (int bad : new int[] {-1, 1, LEAST, MOST}) {
            is("4: no such hundred, ahead of hides and n", x.village(bad, 201, -1), NONE);
            is("4: trouble", x.trouble(), 1);
        }
        for (int bad : new int[] {-1, 201, LEAST, MOST}) {
            is("4: hides", x.village(0, bad, 5), NONE);
            is("4: trouble", x.trouble(), 2);
        }
        for (int bad : new int[] {-1, 21, LEAST, MOST}) {
            is("4: n", x.village(0, 5, bad), NONE);
            is("4: trouble", x.trouble(), 2);
        }
        is("4: these leave the tape", x.count(6), 20);
        is("4: the first n bytes", x.village(0, 200, 5), 0);
        is("4: trouble", x.trouble(), 0);
        is("4: the tape is empty then", x.count(6), 0);
        is("4: found", Checks.find(x, "ashby", false), 0);
        for (String bad : new String[] {"Ashby", "ash by", "ashby ", "ashby1", "ash,", "abcdefghijk", "ash\u00e9", "`", "{"}) {
            is("4: no name: " + bad, Checks.village(x, 0, 5, bad), NONE);
            is("4: trouble", x.trouble(), 2);
            is("4: the tape is empty then", x.count(6), 0);
        }
        Checks.put(x, "ashby");
        is("4: no byte is no name", x.village(0, 5, 0), NONE);
        is("4: trouble", x.trouble(), 2);
        is("4: the tape is empty then", x.count(6), 0);
        is("4: there already", Checks.village(x, 0, 5, "ashby"), NONE);
        is("4: trouble", x.trouble(), 5);
        is("4: the tape is empty then", x.count(6), 0);
        is("4: a beginning is another name", Checks.village(x, 0, 5, "ashb"), 1);
        is("4: ten letters", Checks.village(x, 0, 0, "abcdefghij"), 2);
        is("4: a lord's name is free", Checks.lord(x, -1, "odo") + Checks.village(x, 0, 0, "odo"), 3);
        for (int i = 4; i < 30; i++) {
            is("4: village", Checks.village(x, 0, 0, letters(i)), i);
        }
        is("4: a 31st", Checks.village(x, 0, 0, "zz"), NONE);
        is("4: trouble", x.trouble(), 3);
        is("4: there already, ahead of no room", Checks.village(x, 0, 0, "ashby"), NONE);
        is("4: trouble", x.trouble(), 5);
        is("4: no name, ahead of no room", Checks.village(x, 0, 0, "Z"), NONE);
        is("4: trouble", x.trouble(), 2);
        is("4: count", x.count(1), 30);
    }

    private static void lord() {
        KingdomSurvey x = new KingdomSurvey();
        Checks.put(x, "odo");
        for (int bad : new int[] {-2, 0, LEAST, MOST}) {
            is("5: no such overlord, ahead of n", x.lord(bad, -1), NONE);
            is("5: trouble", x.trouble(), 1);
        }
        for (int bad : new int[] {-1, 21, LEAST, MOST}) {
            is("5: n", x.lord(-1, bad), NONE);
            is("5: trouble", x.trouble(), 2);
        }
        is("5: these leave the tape", x.count(6), 20);
        is("5: of the king", x.lord(-1, 3), 0);
        is("5: the tape is empty then", x.count(6), 0);
        is("5: trouble", x.trouble(), 0);
        is("5: none holds of itself as it comes", Checks.lord(x, 1, "hugh"), NONE);
        is("5: trouble", x.trouble(), 1);
        x.find(0, true);
        is("5: of a lord", Checks.lord(x, 0, "hugh"), 1);
        is("5: its top", x.top(1), 0);
        is("5: no name", Checks.lord(x, 0, "Hugh"), NONE);
        is("5: trouble", x.trouble(), 2);
        is("5: no byte is no name", x.lord(0, 0), NONE);
        is("5: trouble", x.trouble(), 2);
        is("5: eleven letters", Checks.lord(x, 0, "abcdefghijk"), NONE);
        is("5: trouble", x.trouble(), 2);
        is("5: there already", Checks.lord(x, -1, "hugh"), NONE);
        is("5: trouble", x.trouble(), 5);
        is("5: the tape is empty then", x.count(6), 0);
        for (int i = 2; i < 16; i++) {
            is("5: lord", Checks.lord(x, i - 1, letters(i)), i);
        }
        is("5: a 17th", Checks.lord(x, -1, "zz"), NONE);
        is("5: trouble", x.trouble(), 3);
        is("5: there already, ahead of no room", Checks.lord(x, -1, "odo"), NONE);
        is("5: trouble", x.trouble(), 5);
        is("5: count", x.count(2), 16);
        is("5: all are under the first", x.under(0), 15);
    }

    private static void holds() {
        KingdomSurvey x = kingdom();
        int[][] noneSuch = {{-1, 0}, {3, 0}, {0, 3}, {0, -2}, {LEAST, 0}, {MOST, -1}, {0, MOST}, {3, 3}, {-1, -1}};
        for (int[] bad : noneSuch) {
            is("6: none such", x.holds(bad[0], bad[1]), false);
            is("6: trouble", x.trouble(), 1);
        }
        int[][] ofItself = {{0, 0}, {0, 1}, {0, 2}, {1, 1}, {1, 2}, {2, 2}};
        for (int[] bad : ofItself) {
            is("6: of itself", x.holds(bad[0], bad[1]), false);
            is("6: trouble", x.trouble(), 5);
        }
        is("6: all as it was", x.under(0) * 10 + x.under(1), 21);
        is("6: again of the same", x.holds(1, 0), true);
        is("6: trouble", x.trouble(), 0);
        is("6: past its overlord", x.holds(2, 0), true);
        is("6: under hugh is nobody", x.under(1), 0);
        is("6: of the king", x.holds(1, -1), true);
        is("6: top", x.top(1), 1);
        is("6: the other way about now", x.holds(0, 1), true);
        is("6: top", x.top(2), 1);
        is("6: of the king, who was there already", x.holds(1, -1), true);
    }

    private static void sworn() {
        KingdomSurvey x = kingdom();
        Checks.put(x, "in ashby odo has 1 hides");
        for (int bad : new int[] {-1, 2, LEAST, MOST}) {
            is("7: no such hundred, ahead of n", x.sworn(bad, -1), NONE);
            is("7: trouble", x.trouble(), 1);
        }
        for (int bad : new int[] {-1, 41, LEAST, MOST}) {
            is("7: n", x.sworn(0, bad), NONE);
            is("7: trouble", x.trouble(), 2);
        }
        is("7: both leave the tape", x.count(6), 40);
        is("7: number", x.sworn(0, 24), 0);
        is("7: trouble", x.trouble(), 0);
        is("7: the tape is empty then", x.count(6), 0);
        is("7: the second", Checks.sworn(x, 1, "\nin\n bray\nhugh  has 007was,12 worth,0mills ; in bray odo has 999 ploughs \n"), 1);
        is("7: was", x.entry(1, 4), 7);
        is("7: worth", x.entry(1, 3), 12);
        is("7: what isn't told is 0", x.entry(1, 0) + x.entry(1, 1) + x.entry(1, 2), 0);
        is("7: ploughs", x.entry(2, 1), 999);
        is("7: nothing of the one ahead stays", x.entry(2, 4), 0);
        is("7: a village of another hundred", Checks.sworn(x, 0, "in bray odo has 1 hides"), NONE);
        is("7: trouble", x.trouble(), 4);
        is("7: the tape is empty then", x.count(6), 0);
        is("7: none comes of a text with a fault", Checks.sworn(x, 0, "in ashby odo has 1 hides; in ashby odo"), NONE);
        is("7: entries", x.count(4), 3);
        is("7: returns", x.count(3), 2);
        is("7: n bytes alone are read", x.sworn(0, Checks.put(x, "in ashby odo has 10 hides") - 7), NONE);
        Checks.put(x, "in ashby odo has 1 hides; in ashby odo has 1 hides");
        is("7: the first n bytes", x.sworn(0, 24), 2);
        is("7: one entry", x.returned(2, 2), 1);
    }

    private static void told() {
        KingdomSurvey x = kingdom();
        Checks.put(x, "in ashby hugh has 1 hides; in bray odo has 2 mills");
        for (int bad : new int[] {-1, 3, LEAST, MOST}) {
            is("8: no such lord, ahead of n", x.told(bad, -1), NONE);
            is("8: trouble", x.trouble(), 1);
        }
        for (int bad : new int[] {-1, 61, LEAST, MOST}) {
            is("8: n", x.told(0, bad), NONE);
            is("8: trouble", x.trouble(), 2);
        }
        is("8: both leave the tape", x.count(6), 60);
        is("8: of any villages and lords", x.told(0, 60), 0);
        is("8: trouble", x.trouble(), 0);
        is("8: the tape is empty then", x.count(6), 0);
        is("8: no claims", x.count(5), 0);
        is("8: entries", x.count(4), 2);
        is("8: fault", Checks.told(x, 0, "in ashby odo has 1 hides,"), NONE);
        is("8: trouble", x.trouble(), 4);
        is("8: numbers go on with a jury's", Checks.sworn(x, 0, "in ashby odo has 1 hides"), 1);
        is("8: and on", Checks.told(x, 2, "in ashby odo has 1 hides"), 2);
    }

    private static void faulty(KingdomSurvey x, String text, int fault, int place) {
        int entries = x.count(4);
        is("9: sworn " + text, Checks.sworn(x, 0, text), NONE);
        is("9: trouble of " + text, x.trouble(), 4);
        is("9: fault of " + text, x.fault(), fault);
        is("10: where of " + text, x.where(), place);
        is("9: entries", x.count(4), entries);
        is("9: the tape is empty", x.count(6), 0);
        Checks.told(x, 0, text);
        is("9: fault of told " + text, x.fault(), fault);
        is("10: where of told " + text, x.where(), place);
    }

    private static void faultsOfForm() {
        KingdomSurvey x = kingdom();
        faulty(x, "", 1, 0);
        faulty(x, "  \n ", 1, 4);
        faulty(x, "on ashby", 1, 0);
        faulty(x, " ashby", 1, 1);
        faulty(x, "in", 1, 2);
        faulty(x, "in  ", 1, 4);
        faulty(x, "in 5", 1, 3);
        faulty(x, "in , odo", 1, 3);
        faulty(x, "in ashby", 1, 8);
        faulty(x, "in ashby 7", 1, 9);
        faulty(x, "in ashby;", 1, 8);
        faulty(x, "in ashby odo", 1, 12);
        faulty(x, "in ashby odo had", 1, 13);
        faulty(x, "in ashby odo ha", 1, 13);
        faulty(x, "in ashby odo has", 1, 16);
        faulty(x, "in ashby odo has hides", 1, 17);
        faulty(x, "in ashby odo has 1", 1, 18);
        faulty(x, "in ashby odo has 1 1 hides", 1, 19);
        faulty(x, "in ashby odo has 1 hide", 1, 19);
        faulty(x, "in ashby odo has 1 hidess", 1, 19);
        faulty(x, "in ashby odo has 1,", 1, 18);
        faulty(x, "in ashby odo has 1 hides,", 1, 25);
        faulty(x, "in ashby odo has 1 hides;", 1, 25);
        faulty(x, "in ashby odo has 1 hides; ", 1, 26);
        faulty(x, "in ashby odo has 1 hides 2 mills", 1, 25);
        faulty(x, "in ashby odo has 1 hides in", 1, 25);
        faulty(x, "in ashby odo has 1 hides,,", 1, 25);
        faulty(x, "in ashby odo has 1 hides;;", 1, 25);
        faulty(x, "in ashby odo has 1 hides, in", 1, 26);
        faulty(x, "in ashby odo has 1 hides; 2 mills", 1, 26);
        faulty(x, "in ashby odo has 1 hides; on", 1, 26);
        faulty(x, "inashby odo has 1 hides", 1, 0);
        faulty(x, "in ashbyodo has 1 hides", 2, 3);
    }

    private static void faultsOfTokens() {
        KingdomSurvey x = kingdom();
        faulty(x, "In ashby", 1, 0);
        faulty(x, "in\tashby odo has 1 hides", 1, 2);
        faulty(x, "in\rashby odo has 1 hides", 1, 2);
        faulty(x, "in ashby. odo", 1, 8);
        faulty(x, "in ashby\u00a0odo", 1, 8);
        faulty(x, "in \u00e9", 1, 3);
        faulty(x, "in \0", 1, 3);
        faulty(x, "in abcdefghij odo", 2, 3);
        faulty(x, "in abcdefghijk odo", 1, 3);
        faulty(x, "in ashby abcdefghij has", 2, 9);
        faulty(x, "in ashby abcdefghijk has", 1, 9);
        faulty(x, "in ashby odo has 1000 hides", 1, 17);
        faulty(x, "in ashby odo has 0001 hides", 1, 17);
        faulty(x, "in ashby odo has -1 hides", 1, 17);
        faulty(x, "in ashby odo has 1.5 hides", 1, 18);
        faulty(x, "in ashby odo has 1 hides.", 1, 24);
        faulty(x, "in ashby odo has 1 hides:", 1, 24);
        faulty(x, "in ashby odo has 1 hides/", 1, 24);
        faulty(x, "in ashby odo has 1 hideshidesh", 1, 19);
        is("9: 999 and 10 letters are tokens", Checks.village(x, 0, 0, "abcdefghij"), 2);
        is("9: no fault", Checks.sworn(x, 0, "in abcdefghij odo has 999hides,000was;in ashby odo has 1mills"), 0);
        is("9: fault", x.fault(), 0);
    }

    private static void faultsOfNames() {
        KingdomSurvey x = kingdom();
        faulty(x, "in x", 2, 3);
        faulty(x, "in x 5 . . .", 2, 3);
        faulty(x, "in odo odo has 1 hides", 2, 3);
        faulty(x, "in ashb odo has 1 hides", 2, 3);
        faulty(x, "in ashbyy odo has 1 hides", 2, 3);
        faulty(x, "in ashby ashby has 1 hides", 2, 9);
        faulty(x, "in ashby x", 2, 9);
        faulty(x, "in ashby\nod has 1 hides", 2, 9);
        faulty(x, "in ashby odo has 1 hides; in ashbe odo has 1 hides", 2, 29);
        is("9: a jury's village of another hundred", Checks.sworn(x, 0, "in ashby odo has 1 hides;in bray odo has 1 hides"), NONE);
        is("9: fault", x.fault(), 2);
        is("10: where", x.where(), 28);
        is("9: a lord's", Checks.told(x, 0, "in ashby odo has 1 hides;in bray odo has 1 hides"), 0);
        Checks.village(x, 0, 1, "in");
        Checks.lord(x, -1, "has");
        is("9: names that are words of the form", Checks.sworn(x, 0, "in in has has 1 hides"), 1);
        is("9: village", x.entry(2, 5), 2);
        is("9: lord", x.entry(2, 6), 3);
    }

    private static void faultsTwiceAndMany() {
        KingdomSurvey x = kingdom();
        String[] things = {"hides", "ploughs", "mills", "worth", "was"};
        for (String thing : things) {
            faulty(x, "in ashby odo has 1 " + thing + ",1 " + thing + " .", 3, 22 + thing.length());
        }
        String all = "in ashby odo has 1 hides,2 ploughs,3 mills,4 worth,5 was";
        faulty(x, all + ",6 was", 3, all.length() + 3);
        faulty(x, all + ",6 cows", 1, all.length() + 3);
        faulty(x, all + ",", 1, all.length() + 1);
        is("9: all five", Checks.sworn(x, 0, all + ";" + all), 0);
        Checks.village(x, 0, 0, "a");
        Checks.lord(x, -1, "b");
        String twenty = Checks.times(20, "in a b has 1was");
        faulty(x, twenty + ";in", 4, 320);
        faulty(x, twenty + "; in a b has 1was", 4, 321);
        faulty(x, twenty + ";in x", 4, 320);
        faulty(x, twenty + ";", 1, 320);
        faulty(x, twenty + ";on", 1, 320);
        faulty(x, twenty + ",1was;in", 3, 321);
        is("9: twenty entries", Checks.sworn(x, 0, twenty), 1);
        is("9: fault", x.fault(), 0);
        is("9: many", x.returned(1, 2), 20);
    }

    private static void faultAndWhere() {
        KingdomSurvey x = kingdom();
        is("9: none yet", x.fault(), 0);
        is("10: none yet", x.where(), NONE);
        faulty(x, "in x", 2, 3);
        is("9: asking changes nothing", x.fault() * 10 + x.where(), 23);
        x.count(99);
        x.claimed(99);
        x.entry(99, 99);
        is("10: calls that aren't refused by a number leave it", x.where(), 3);
        x.feed(0, 0, 0, 0, 0);
        is("10: so does feed", x.where(), 3);
        x.sworn(0, 99);
        is("9: a call refused by 2 leaves it", x.fault(), 2);
        is("10: but its place is gone", x.where(), NONE);
        x.sworn(9, 0);
        x.told(9, 0);
        x.told(0, 99);
        is("9: a call refused by 1 leaves it", x.fault(), 2);
        x.find(0, true);
        faulty(x, "in ashby odo has 1 hides;", 1, 25);
        x.hundred();
        is("9: other calls leave it", x.fault(), 1);
        is("10: a call that wasn't refused", x.where(), NONE);
        Checks.told(x, 0, "in ashby odo has 1 hides");
        is("9: told without a fault", x.fault(), 0);
        is("10: where", x.where(), NONE);
        faulty(x, "in", 1, 2);
        is("9: sworn without a fault", Checks.sworn(x, 0, "in ashby odo has 1 hides") + x.fault(), 1);
    }

    private static void roomOfReturnsAndEntries() {
        KingdomSurvey x = kingdom();
        for (int i = 0; i < 20; i++) {
            is("7: return", i % 2 == 0 ? Checks.sworn(x, 0, "in ashby odo has 1 hides") : Checks.told(x, 0, "in bray odo has 1 hides"), i);
        }
        is("9: a fault goes ahead of no room", Checks.sworn(x, 0, "in"), NONE);
        is("9: trouble", x.trouble(), 4);
        is("7: a 21st", Checks.sworn(x, 0, "in ashby odo has 1 hides"), NONE);
        is("7: trouble", x.trouble(), 3);
        is("9: no fault then", x.fault(), 0);
        is("10: no place", x.where(), NONE);
        is("7: the tape is empty then", x.count(6), 0);
        is("8: a 21st", Checks.told(x, 0, "in ashby odo has 1 hides"), NONE);
        is("8: trouble", x.trouble(), 3);
        is("7: returns", x.count(3), 20);
        is("7: entries", x.count(4), 20);

        KingdomSurvey y = kingdom();
        Checks.village(y, 0, 0, "a");
        Checks.lord(y, -1, "b");
        for (int i = 0; i < 7; i++) {
            is("7: twenty entries", Checks.sworn(y, 0, Checks.times(20, "in a b has 1was")), i);
        }
        is("7: entries 141 to 151", Checks.sworn(y, 0, Checks.times(11, "in a b has 1was")), NONE);
        is("7: trouble", y.trouble(), 3);
        is("7: none comes", y.count(4), 140);
        is("7: no return", y.count(3), 7);
        is("8: entries 141 to 150", Checks.told(y, 0, Checks.times(10, "in a b has 2was")), 7);
        is("8: entries", y.count(4), 150);
        is("8: the last", y.entry(149, 4), 2);
        is("8: a 151st", Checks.told(y, 0, "in a b has 1was"), NONE);
        is("8: trouble", y.trouble(), 3);
        is("8: claims", y.count(5), 140);
    }

    private static void entry() {
        KingdomSurvey x = kingdom();
        Checks.told(x, 2, "in bray hugh has 10 was, 20 worth, 30 mills, 40 ploughs, 50 hides");
        Checks.sworn(x, 0, "in ashby wace has 1 hides, 2 ploughs, 3 mills, 4 worth, 5 was");
        int[][] due = {{50, 40, 30, 20, 10, 1, 1, 0}, {1, 2, 3, 4, 5, 0, 2, 1}};
        for (int i = 0; i < 2; i++) {
            for (int what = 0; what < 8; what++) {
                is("11: entry " + i + " " + what, x.entry(i, what), due[i][what]);
            }
        }
        for (int bad : new int[] {-1, 8, LEAST, MOST}) {
            is("11: what", x.entry(0, bad), NONE);
        }
        for (int bad : new int[] {-1, 2, LEAST, MOST}) {
            is("11: i", x.entry(bad, 0), NONE);
        }
        is("11: no trouble of it", x.trouble(), 0);
    }

    private static void returned() {
        KingdomSurvey x = kingdom();
        Checks.told(x, 2, "in bray hugh has 1 was; in ashby odo has 1 was");
        Checks.sworn(x, 1, "in bray wace has 1 hides");
        Checks.sworn(x, 0, "in ashby wace has 1 hides");
        int[][] due = {{NONE, 2, 2, 0}, {1, NONE, 1, 2}, {0, NONE, 1, 3}};
        for (int i = 0; i < 3; i++) {
            for (int what = 0; what < 4; what++) {
                is("12: returned " + i + " " + what, x.returned(i, what), due[i][what]);
            }
        }
        for (int bad : new int[] {-1, 4, LEAST, MOST}) {
            is("12: what", x.returned(0, bad), NONE);
        }
        for (int bad : new int[] {-1, 3, LEAST, MOST}) {
            is("12: i", x.returned(bad, 2), NONE);
        }
    }

    private static void find() {
        KingdomSurvey x = kingdom();
        is("13: village", Checks.find(x, "bray", false), 1);
        is("13: trouble", x.trouble(), 0);
        is("13: the tape is empty then", x.count(6), 0);
        is("13: lord", Checks.find(x, "wace", true), 2);
        is("13: no lord", Checks.find(x, "bray", true), -2);
        is("13: that isn't refused", x.trouble(), 0);
        is("13: the tape is empty then", x.count(6), 0);
        is("13: no village", Checks.find(x, "wace", false), -2);
        for (String no : new String[] {"bra", "brayy", "Bray", "bray ", "ashbyashbyashby", "br\u00e9y"}) {
            is("13: no village " + no, Checks.find(x, no, false), -2);
        }
        is("13: no byte", x.find(0, false), -2);
        Checks.put(x, "bray");
        for (int bad : new int[] {-1, 21, LEAST, MOST}) {
            is("13: n", x.find(bad, false), NONE);
            is("13: trouble", x.trouble(), 2);
        }
        is("13: that leaves the tape", x.count(6), 20);
        is("13: the first n bytes", x.find(4, false), 1);
    }

    private static void claimedAndOver() {
        KingdomSurvey x = kingdom();
        is("14: none", x.claimed(0), 0);
        Checks.sworn(x, 0, "in ashby odo has 3 hides; in ashby hugh has 2 hides, 9 mills");
        is("14: both", x.claimed(0), 5);
        is("15: no more than it is rated at", x.over(), 0);
        Checks.told(x, 0, "in ashby odo has 9 hides; in bray odo has 9 hides");
        is("14: a lord's don't count", x.claimed(0), 5);
        is("15: nor here", x.over(), 0);
        Checks.sworn(x, 0, "in ashby odo has 1 hides");
        is("14: another return", x.claimed(0), 6);
        is("15: one", x.over(), 1);
        Checks.sworn(x, 1, "in bray odo has 999 hides");
        is("14: the other village", x.claimed(1), 999);
        is("15: two", x.over(), 2);
        for (int bad : new int[] {-1, 2, LEAST, MOST}) {
            is("14: no such village", x.claimed(bad), NONE);
        }
        is("14: no trouble of it", x.trouble(), 0);
    }

    private static void fall() {
        KingdomSurvey x = kingdom();
        for (int bad : new int[] {-1, 2, LEAST, MOST}) {
            is("16: no such village", x.fall(bad), NONE);
            is("16: trouble", x.trouble(), 1);
        }
        is("16: without claims", x.fall(0), 0);
        is("16: trouble", x.trouble(), 0);
        Checks.told(x, 0, "in ashby odo has 9 hides");
        is("16: a lord's is no claim", x.fall(0), 0);
        Checks.sworn(x, 0, "in ashby odo has 5 hides");
        is("16: as much as it is rated at", x.fall(0), 0);
        Checks.sworn(x, 0, "in ashby odo has 0 hides; in ashby odo has 1 hides");
        is("16: one must fall", x.fall(0), 1);
        is("17: the one with the least hides", x.falls(0), 3);

        KingdomSurvey y = kingdom();
        Checks.village(y, 0, 0, "a");
        Checks.lord(y, -1, "b");
        Checks.sworn(y, 0, Checks.times(12, "in a b has 1hides"));
        is("16: twelve", y.fall(2), 12);
        for (int i = 0; i < 12; i++) {
            is("17: all of them", y.falls(i), i);
        }
        is("17: no more", y.falls(12), NONE);
        Checks.sworn(y, 0, "in a b has 0hides");
        is("16: thirteen", y.fall(2), NONE);
        is("16: trouble", y.trouble(), 3);
        is("17: the latest that told a number", y.falls(11), 11);
        y.fall(9);
        is("17: nor one without a village", y.falls(11), 11);
        Checks.village(y, 1, 200, "c");
        Checks.sworn(y, 1, Checks.times(13, "in c b has 1hides"));
        is("16: thirteen that aren't over", y.fall(3), NONE);
        is("16: trouble", y.trouble(), 3);
    }

    private static int fallOf(KingdomSurvey x, int... hides) {
        StringBuilder text = new StringBuilder();
        for (int h : hides) {
            text.append(text.length() == 0 ? "" : ";").append("in ashby odo has ").append(h).append("hides");
        }
        Checks.sworn(x, 0, text.toString());
        return x.fall(0);
    }

    private static void fallOfAsFew() {
        KingdomSurvey x = kingdom();
        is("16: the fewest", fallOf(x, 2, 2, 2, 4), 2);
        is("16: the first 2 and 4, as 4 alone leaves too much", x.falls(0) * 100 + x.falls(1), 3);
        KingdomSurvey y = kingdom();
        is("16: two", fallOf(y, 2, 1, 6, 3), 2);
        is("16: 1 and 6 are the least", y.falls(0) * 100 + y.falls(1), 102);
        KingdomSurvey z = kingdom();
        is("16: first by numbers", fallOf(z, 1, 4, 2, 3), 2);
        is("16: 1 and 4, not 2 and 3", z.falls(0) * 100 + z.falls(1), 1);
        KingdomSurvey w = kingdom();
        is("16: four of five", fallOf(w, 3, 3, 3, 3, 3), 4);
        is("16: the first four", w.falls(0) + 10 * w.falls(1) + 100 * w.falls(2) + 1000 * w.falls(3), 3210);
        KingdomSurvey v = kingdom();
        is("16: the greatest alone does", fallOf(v, 2, 2, 1, 7), 1);
        is("16: it is the last", v.falls(0), 3);
    }

    private static void falls() {
        KingdomSurvey x = kingdom();
        is("17: none yet", x.falls(0), NONE);
        fallOf(x, 9, 9);
        is("17: both fall", x.falls(0) * 10 + x.falls(1), 1);
        for (int bad : new int[] {-1, 2, LEAST, MOST}) {
            is("17: i", x.falls(bad), NONE);
        }
        Checks.sworn(x, 0, "in ashby odo has 1 hides");
        is("17: what comes later changes nothing", x.falls(1), 1);
        is("16: a village that isn't over", x.fall(1), 0);
        is("17: it has none", x.falls(0), NONE);
    }

    private static void silence() {
        KingdomSurvey x = kingdom();
        is("18: both", x.silent(), 2);
        is("19: the first", x.silence(0), 0);
        is("19: the second", x.silence(1), 1);
        Checks.told(x, 0, "in bray odo has 1 hides");
        is("18: a lord's entry doesn't count", x.silent(), 2);
        Checks.sworn(x, 0, "in ashby odo has 0 hides");
        is("18: a claim without hides does", x.silent(), 1);
        is("19: the first", x.silence(0), 1);
        for (int bad : new int[] {-1, 1, LEAST, MOST}) {
            is("19: i", x.silence(bad), NONE);
        }
        Checks.sworn(x, 1, "in bray odo has 1 was");
        is("18: none", x.silent(), 0);
        is("19: none", x.silence(0), NONE);
    }

    private static void lay() {
        KingdomSurvey x = kingdom();
        int[][] noneSuch = {{-1, 0}, {3, 0}, {0, -1}, {0, 2}, {LEAST, 0}, {0, MOST}};
        for (int[] bad : noneSuch) {
            is("20: none such", x.lay(bad[0], bad[1]), NONE);
            is("20: trouble", x.trouble(), 1);
        }
        is("21: none yet", x.difference(), NONE);
        is("20: none to lay", x.lay(0, 0), 0);
        is("20: trouble", x.trouble(), 0);
        is("21: nothing apart", x.difference(), 0);
        Checks.sworn(x, 0, "in ashby odo has 5 hides, 1 ploughs, 7 mills, 10 worth, 3 was");
        is("20: a claim alone", x.lay(0, 0), 0);
        Checks.told(x, 1, "in ashby odo has 5 hides");
        is("20: told by another one", x.lay(0, 0), 0);
        Checks.told(x, 0, "in ashby hugh has 5 hides; in bray odo has 5 hides");
        is("20: of another one, or elsewhere", x.lay(0, 0), 0);
        is("20: told by another one of it", x.lay(1, 0), 0);
        Checks.told(x, 0, "in ashby odo has 1 hides, 2 ploughs, 7 mills, 30 worth");
        is("20: one pair", x.lay(0, 0), 1);
        is("21: how far the five lie apart", x.difference(), 4 + 1 + 0 + 20 + 3);
        is("22: its own", x.pair(0, false), 4);
        is("22: the claim", x.pair(0, true), 0);
        is("20: the other village", x.lay(0, 1), 0);
        is("22: no pair", x.pair(0, true), NONE);
    }

    private static String hides(String lord, int... many) {
        StringBuilder text = new StringBuilder();
        for (int h : many) {
            text.append(text.length() == 0 ? "" : ";").append("in ashby ").append(lord).append(" has ").append(h).append("hides");
        }
        return text.toString();
    }

    /** Pairs as digits: the entry told, then the claim, in their order. */
    private static long pairs(KingdomSurvey x, int many) {
        long digits = 0;
        for (int i = 0; i < many; i++) {
            digits = digits * 100 + x.pair(i, false) * 10 + x.pair(i, true);
        }
        return digits;
    }

    private static void layOfAsLittle() {
        KingdomSurvey x = kingdom();
        Checks.sworn(x, 0, hides("odo", 1, 3));
        Checks.told(x, 0, hides("odo", 1, 1, 3));
        is("20: one without any is behind all", x.lay(0, 0), 2);
        is("22: pairs", pairs(x, 2), 2041);
        KingdomSurvey y = kingdom();
        Checks.sworn(y, 0, hides("odo", 10, 20));
        Checks.told(y, 0, hides("odo", 12, 11));
        is("20: as many as can be", y.lay(0, 0), 2);
        is("21: the least together", y.difference(), 8 + 1);
        is("22: the second has the first claim", pairs(y, 2), 2130);
        KingdomSurvey z = kingdom();
        Checks.sworn(z, 0, hides("odo", 5, 5, 5));
        Checks.told(z, 0, hides("odo", 7, 3));
        is("20: more claims than entries", z.lay(0, 0), 2);
        is("21: difference", z.difference(), 4);
        is("22: the lesser claims", pairs(z, 2), 3041);
        KingdomSurvey w = kingdom();
        Checks.told(w, 0, hides("odo", 100, 5));
        Checks.sworn(w, 0, hides("odo", 0));
        is("20: told ahead of the claim", w.lay(0, 0), 1);
        is("21: the nearer", w.difference(), 5);
        is("22: the second is paired", pairs(w, 1), 12);
        KingdomSurvey v = kingdom();
        Checks.sworn(v, 0, hides("odo", 0, 999));
        Checks.told(v, 0, hides("odo", 0, 0));
        is("20: a pair more weighs more than any difference", v.lay(0, 0), 2);
        is("21: difference", v.difference(), 999);
        is("22: pairs", pairs(v, 2), 2031);
    }

    private static void layOfFirstSix() {
        KingdomSurvey x = kingdom();
        Checks.sworn(x, 0, hides("odo", 90, 80, 70, 60, 50, 40, 1));
        Checks.told(x, 0, hides("odo", 41, 51, 61, 71, 81, 91, 1));
        is("20: the first six", x.lay(0, 0), 6);
        is("21: difference", x.difference(), 6);
        for (int i = 0; i < 6; i++) {
            is("22: own", x.pair(i, false), 7 + i);
            is("22: claim", x.pair(i, true), 5 - i);
        }
        is("22: no seventh", x.pair(6, false), NONE);
    }

    private static void differenceAndPair() {
        KingdomSurvey x = kingdom();
        is("22: none yet", x.pair(0, false), NONE);
        Checks.sworn(x, 0, hides("odo", 1, 3));
        Checks.told(x, 0, hides("odo", 2, 4));
        x.lay(0, 0);
        for (int bad : new int[] {-1, 2, LEAST, MOST}) {
            is("22: i", x.pair(bad, true), NONE);
            is("22: i", x.pair(bad, false), NONE);
        }
        x.lay(9, 9);
        Checks.sworn(x, 0, hides("odo", 2, 4));
        is("21: the latest that told a number", x.difference(), 2);
        is("22: its pairs", pairs(x, 2), 2031);
        x.lay(0, 0);
        is("21: laid again", x.difference(), 0);
        is("22: pairs", pairs(x, 2), 2435);
    }

    private static void held() {
        KingdomSurvey x = kingdom();
        Checks.sworn(x, 0, "in ashby odo has 1 hides,10 ploughs; in ashby hugh has 2 hides, 3 mills; in ashby wace has 4 hides, 7 worth, 9 was");
        Checks.sworn(x, 1, "in bray wace has 8 hides");
        Checks.told(x, 0, "in bray odo has 500 hides");
        is("23: alone", x.held(0, 0, false), 1);
        is("23: with all", x.held(0, 0, true), 15);
        is("23: hugh alone", x.held(1, 0, false), 2);
        is("23: hugh with all", x.held(1, 0, true), 14);
        is("23: wace", x.held(2, 0, true), 12);
        is("23: ploughs", x.held(0, 1, true), 10);
        is("23: mills", x.held(0, 2, true), 3);
        is("23: worth", x.held(0, 3, true), 7);
        is("23: was", x.held(1, 4, true), 9);
        x.holds(2, 0);
        is("23: past hugh", x.held(1, 0, true), 2);
        is("23: odo as ahead", x.held(0, 0, true), 15);
        for (int bad : new int[] {-1, 3, LEAST, MOST}) {
            is("23: lord", x.held(bad, 0, true), NONE);
        }
        for (int bad : new int[] {-1, 5, LEAST, MOST}) {
            is("23: thing", x.held(0, bad, false), NONE);
        }
    }

    private static void underAndTop() {
        KingdomSurvey x = kingdom();
        Checks.lord(x, 0, "emma");
        is("24: odo", x.under(0), 3);
        is("24: hugh", x.under(1), 1);
        is("24: wace", x.under(2), 0);
        is("25: odo", x.top(0), 0);
        is("25: hugh", x.top(1), 0);
        is("25: wace", x.top(2), 0);
        x.holds(1, -1);
        is("24: odo without hugh", x.under(0), 1);
        is("25: wace of hugh", x.top(2), 1);
        is("25: emma of odo", x.top(3), 0);
        x.holds(0, 2);
        is("24: all are under hugh", x.under(1), 3);
        is("25: emma of hugh", x.top(3), 1);
        for (int bad : new int[] {-1, 4, LEAST, MOST}) {
            is("24: lord", x.under(bad), NONE);
            is("25: lord", x.top(bad), NONE);
        }
    }

    private static void greatest() {
        KingdomSurvey x = new KingdomSurvey();
        is("26: without lords", x.greatest(0), -2);
        is("26: no thing, without lords too", x.greatest(5), NONE);
        KingdomSurvey y = kingdom();
        is("26: of as much the least", y.greatest(0), 0);
        y.holds(2, -1);
        Checks.sworn(y, 0, "in ashby wace has 2 hides; in ashby hugh has 2 hides, 1 mills; in ashby odo has 1 ploughs");
        is("26: with all", y.greatest(2), 0);
        is("26: as much", y.greatest(0), 0);
        Checks.sworn(y, 0, "in ashby wace has 1 hides");
        is("26: more", y.greatest(0), 2);
        Checks.told(y, 0, "in ashby odo has 9 hides");
        is("26: of claims alone", y.greatest(0), 2);
        for (int bad : new int[] {-1, 5, LEAST, MOST}) {
            is("26: thing", y.greatest(bad), NONE);
        }
    }

    private static void sum() {
        KingdomSurvey x = kingdom();
        Checks.sworn(x, 0, "in ashby odo has 1 hides,2 ploughs,3 mills,4 worth,5 was; in ashby hugh has 10 hides");
        Checks.sworn(x, 1, "in bray odo has 100 hides");
        Checks.told(x, 0, "in ashby odo has 500 hides");
        int[] due = {11, 2, 3, 4, 5};
        for (int thing = 0; thing < 5; thing++) {
            is("27: thing " + thing, x.sum(0, thing), due[thing]);
        }
        is("27: the other", x.sum(1, 0), 100);
        for (int bad : new int[] {-1, 2, LEAST, MOST}) {
            is("27: hundred", x.sum(bad, 0), NONE);
        }
        for (int bad : new int[] {-1, 5, LEAST, MOST}) {
            is("27: thing", x.sum(0, bad), NONE);
        }
    }

    private static void rates() {
        KingdomSurvey x = kingdom();
        Checks.sworn(x, 0, "in ashby odo has 1 hides,1 ploughs,1 mills,999 worth");
        is("28: true", x.rates(100, 20, 3, 100), true);
        is("28: trouble", x.trouble(), 0);
        is("29: by these", x.tax(-1), 123);
        for (int bad : new int[] {-1, 1001, LEAST, MOST}) {
            is("28: hide", x.rates(bad, 0, 0, 0), false);
            is("28: trouble", x.trouble(), 2);
            is("28: plough", x.rates(0, bad, 0, 0), false);
            is("28: mill", x.rates(0, 0, bad, 0), false);
        }
        for (int bad : new int[] {-1, 101, LEAST, MOST}) {
            is("28: share", x.rates(0, 0, 0, bad), false);
            is("28: trouble", x.trouble(), 2);
        }
        is("28: they stay", x.tax(-1), 123);
        is("28: the most", x.rates(1000, 1000, 1000, 100), true);
        is("29: no more than its worth", x.tax(-1), 999);
        is("28: none", x.rates(0, 0, 0, 0), true);
        is("29: nothing", x.tax(-1), 0);
    }

    private static void tax() {
        KingdomSurvey x = kingdom();
        Checks.sworn(x, 0, "in ashby odo has 2 hides,3 ploughs,4 mills,999 worth; in ashby hugh has 10 hides, 7 worth");
        Checks.told(x, 0, "in ashby odo has 9 hides, 999 worth");
        is("29: without rates", x.tax(-1), 0);
        x.rates(1, 10, 100, 100);
        is("29: odo", x.tax(0), 432);
        is("29: hugh, no more than its worth", x.tax(1), 7);
        is("29: wace", x.tax(2), 0);
        is("29: all", x.tax(-1), 439);
        x.rates(1, 10, 100, 50);
        is("29: half of 7, downwards", x.tax(1), 3);
        is("29: odo", x.tax(0), 432);
        x.rates(1, 10, 100, 43);
        is("29: 429 of 999", x.tax(0), 429);
        x.rates(1, 10, 100, 0);
        is("29: no share", x.tax(-1), 0);
        for (int bad : new int[] {-2, 3, LEAST, MOST}) {
            is("29: for others", x.tax(bad), NONE);
        }
    }

    private static void raised() {
        KingdomSurvey x = kingdom();
        is("30: nothing wanted", x.raised(0), 0);
        is("30: nothing to be had", x.raised(1), -2);
        is("30: that isn't refused", x.trouble(), 0);
        for (int bad : new int[] {-1, LEAST}) {
            is("30: below 0", x.raised(bad), NONE);
            is("30: trouble", x.trouble(), 2);
        }
        Checks.sworn(x, 0, "in ashby odo has 1 hides, 999 worth; in ashby hugh has 1 hides, 999 worth");
        Checks.told(x, 0, "in ashby odo has 9 hides, 999 worth");
        is("30: one for two", x.raised(2), 1);
        is("30: trouble", x.trouble(), 0);
        is("30: two for three", x.raised(3), 2);
        is("30: as much as there is", x.raised(1998), 999);
        is("30: no more", x.raised(1999), -2);
        is("30: the most", x.raised(MOST), -2);
        x.rates(990, 0, 0, 100);
        is("30: upon the rates", x.raised(1998), 9);
        is("30: enough already", x.raised(1980), 0);
        is("30: the rates stay", x.tax(-1), 1980);
        x.rates(1000, 0, 0, 100);
        is("30: above the highest rate", x.raised(1998), 0);
        x.rates(0, 0, 0, 50);
        is("30: half", x.raised(998), 499);
        is("30: a share too small", x.raised(999), -2);
        KingdomSurvey y = kingdom();
        Checks.sworn(y, 0, Checks.times(10, "in ashby odo has 1 hides,999worth"));
        y.rates(0, 0, 0, 100);
        for (int pence : new int[] {1, 2, 511, 512, 513, 998, 999}) {
            is("30: pence", y.raised(10 * pence), pence);
            is("30: a penny short", y.raised(10 * pence + 1), pence == 999 ? -2 : pence + 1);
        }
    }

    private static void spared() {
        KingdomSurvey x = kingdom();
        Checks.sworn(x, 0, "in ashby odo has 10 hides, 10 worth; in ashby odo has 11 hides, 10 worth; in ashby hugh has 1 was");
        Checks.told(x, 0, "in ashby odo has 99 hides");
        is("31: without rates", x.spared(), 0);
        x.rates(1, 0, 0, 100);
        is("31: one", x.spared(), 1);
        x.rates(1, 0, 0, 99);
        is("31: two", x.spared(), 2);
        x.rates(0, 1000, 1000, 0);
        is("31: none of these things", x.spared(), 0);
    }

    private static void worse() {
        KingdomSurvey x = kingdom();
        Checks.sworn(x, 0, "in ashby odo has 5 worth, 6 was; in ashby odo has 5 worth, 5 was; in ashby odo has 6 worth, 5 was; in ashby odo has 1 was");
        Checks.told(x, 0, "in ashby odo has 9 was");
        is("32: two", x.worse(0), 2);
        is("32: none", x.worse(1), 0);
        Checks.sworn(x, 1, "in bray odo has 9 was");
        is("32: one", x.worse(1), 1);
        is("32: two as ahead", x.worse(0), 2);
        for (int bad : new int[] {-1, 2, LEAST, MOST}) {
            is("32: hundred", x.worse(bad), NONE);
        }
    }

    private static void led() {
        KingdomSurvey x = kingdom();
        Checks.sworn(x, 1, "in bray odo has 2 ploughs; in bray odo has 1 hides");
        Checks.told(x, 0, "in ashby odo has 50 ploughs");
        Checks.sworn(x, 0, "in ashby odo has 1 ploughs");
        Checks.sworn(x, 1, "in bray odo has 1 ploughs");
        int[] due = {1, 1, 0, 1, NONE};
        for (int i = 0; i < 5; i++) {
            is("33: plough " + i, x.led(i), due[i]);
        }
        for (int bad : new int[] {-1, 4, LEAST, MOST}) {
            is("33: plough", x.led(bad), NONE);
        }
    }

    private static void count() {
        KingdomSurvey x = kingdom();
        Checks.sworn(x, 0, "in ashby odo has 1 hides; in ashby odo has 1 hides");
        Checks.told(x, 0, "in ashby odo has 1 hides");
        Checks.put(x, "x");
        int[] due = {2, 2, 3, 2, 3, 2, 20};
        for (int what = 0; what < 7; what++) {
            is("34: count " + what, x.count(what), due[what]);
        }
        for (int bad : new int[] {-1, 7, LEAST, MOST}) {
            is("34: what", x.count(bad), NONE);
        }
    }

    private static void trouble() {
        KingdomSurvey x = kingdom();
        x.lay(9, 9);
        is("35: 1", x.trouble(), 1);
        is("35: asking changes nothing", x.trouble(), 1);
        x.count(-1);
        x.claimed(-1);
        x.entry(-1, 0);
        x.returned(-1, 0);
        x.falls(-1);
        x.silence(-1);
        x.pair(-1, true);
        x.held(-1, 0, true);
        x.under(-1);
        x.top(-1);
        x.greatest(-1);
        x.sum(-1, 0);
        x.tax(-2);
        x.worse(-1);
        x.led(-1);
        is("35: calls whose promise tells no number leave it", x.trouble(), 1);
        x.fall(0);
        is("35: fall not refused", x.trouble(), 0);
        x.raised(-1);
        is("35: 2", x.trouble(), 2);
        x.raised(1);
        is("35: raised not refused", x.trouble(), 0);
        x.rates(-1, 0, 0, 0);
        is("35: 2", x.trouble(), 2);
        x.rates(0, 0, 0, 0);
        is("35: rates not refused", x.trouble(), 0);
        x.holds(0, 0);
        is("35: 5", x.trouble(), 5);
        x.holds(0, -1);
        is("35: holds not refused", x.trouble(), 0);
        x.find(-1, true);
        is("35: 2", x.trouble(), 2);
        x.find(0, true);
        is("35: find not refused", x.trouble(), 0);
        x.sworn(0, 0);
        is("35: 4", x.trouble(), 4);
        x.lay(0, 0);
        is("35: lay not refused", x.trouble(), 0);
        x.told(0, 0);
        is("35: 4", x.trouble(), 4);
        Checks.lord(x, -1, "emma");
        is("35: lord not refused", x.trouble(), 0);
        x.village(9, 0, 0);
        is("35: 1", x.trouble(), 1);
        Checks.village(x, 0, 0, "cam");
        is("35: village not refused", x.trouble(), 0);
    }
}
