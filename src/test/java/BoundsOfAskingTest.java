import java.util.Arrays;

/**
 * The sentences of promises 11, 12 and 14 to 35 that name a boundary, each with a test of its own: what lies on
 * each side of it, what is answered, what trouble() says then, and that nothing else changes.
 */
public final class BoundsOfAskingTest {
    private static final int NONE = KingdomSurvey.NONE;
    private static final int LEAST = Integer.MIN_VALUE;
    private static final int MOST = Integer.MAX_VALUE;

    private static final Scene NEW = new Scene();
    /** Two hundreds with two villages and one, three lords under one another; nothing sworn, nothing told by lords. */
    private static final Scene SETTLED = NEW
            .with(2, KingdomSurvey::hundred)
            .with(x -> Checks.village(x, 0, 5, "ashby"))
            .with(x -> Checks.village(x, 1, 3, "bray"))
            .with(x -> Checks.village(x, 0, 0, "cam"))
            .with(x -> Checks.lord(x, -1, "odo"))
            .with(x -> Checks.lord(x, 0, "hugh"))
            .with(x -> Checks.lord(x, 1, "wace"));
    /** Something of everything is told, and the latest text had a FAULT 2 at 3; a name is on the tape. */
    private static final Scene TOLD = SETTLED
            .with(x -> Checks.sworn(x, 0, "in ashby odo has 3 hides,4 ploughs,1 mills,40 worth,60 was;in ashby hugh has 4 hides,9 worth"))
            .with(x -> Checks.told(x, 0, "in ashby odo has 2 hides;in bray odo has 1 mills"))
            .with(x -> Scene.yes(x.rates(2, 5, 1, 50)))
            .with(x -> x.fall(0))
            .with(x -> x.lay(0, 0))
            .with(x -> Checks.sworn(x, 0, "in x"))
            .fed("ashby");

    public static void main(String[] args) {
        entries();
        entriesOfFullRolls();
        returns();
        returnsOfFullRolls();
        claimedHides();
        villagesThatAreOver();
        fallOfNoneSuch();
        fallOfManyClaims();
        fallOfVillagesThatArentOver();
        fallen();
        fallsOfTheLatestFall();
        silentVillages();
        layOfNoneSuch();
        layOfFewAndMany();
        layBehindALay();
        differenceOfTheLatestLay();
        pairsOfTheLatestLay();
        heldThings();
        lordsUnder();
        lordsOnTop();
        greatestLord();
        sumsOfHundreds();
        ratesOutOfBounds();
        ratesAtTheirBounds();
        taxOfOthers();
        raisedBelowNothing();
        raisedAsFarAsItGoes();
        sparedClaims();
        worseClaims();
        ploughs();
        counts();
        troubles();
        Checks.finish();
    }

    private static int[] outside(int many) {
        return new int[] {-1, many, many + 1, -2, LEAST, MOST};
    }

    private static String hides(String village, String lord, int... many) {
        StringBuilder text = new StringBuilder();
        for (int h : many) {
            text.append(text.length() == 0 ? "" : ";").append("in ").append(village).append(' ').append(lord);
            text.append(" has ").append(h).append("hides");
        }
        return text.toString();
    }

    private static Scene sworn(Scene scene, int hundred, String text) {
        return scene.with(x -> Checks.sworn(x, hundred, text));
    }

    private static Scene told(Scene scene, int lord, String text) {
        return scene.with(x -> Checks.told(x, lord, text));
    }

    private static void entries() {
        int[][] due = {{3, 4, 1, 40, 60, 0, 0, 0}, {4, 0, 0, 9, 0, 0, 1, 0}, {2, 0, 0, 0, 0, 0, 0, 1}, {0, 0, 1, 0, 0, 1, 0, 1}};
        for (int i = 0; i < 4; i++) {
            for (int what = 0; what < 8; what++) {
                int e = i;
                int w = what;
                TOLD.answers("11: Of an ENTRY what " + w, due[e][w], x -> x.entry(e, w));
            }
            for (int bad : outside(8)) {
                int e = i;
                TOLD.answersAndLeavesAll("11: NONE for what " + bad, NONE, x -> x.entry(e, bad));
            }
        }
        for (int bad : outside(4)) {
            for (int what = 0; what < 8; what++) {
                int w = what;
                TOLD.answersAndLeavesAll("11: NONE for an ENTRY " + bad, NONE, x -> x.entry(bad, w));
            }
            TOLD.answers("11: NONE for both", NONE, x -> x.entry(bad, bad));
        }
    }

    /** 150 entries in eight returns, the last ten told by a lord. */
    private static Scene fullEntries() {
        Scene scene = SETTLED.with(x -> Checks.village(x, 0, 0, "a")).with(x -> Checks.lord(x, -1, "b"));
        for (int i = 0; i < 7; i++) {
            scene = sworn(scene, 0, Checks.times(20, "in a b has 1was"));
        }
        return told(scene, 2, Checks.times(10, "in a b has 7was"));
    }

    private static void entriesOfFullRolls() {
        Scene full = fullEntries();
        int[] last = {0, 0, 0, 0, 7, 3, 3, 7};
        for (int what = 0; what < 8; what++) {
            int w = what;
            full.answers("11: the 150th", last[w], x -> x.entry(149, w));
            full.answers("11: NONE for a 151st", NONE, x -> x.entry(150, w));
        }
        full.answers("11: the 140th is a CLAIM", 1, x -> x.entry(139, 4));
        full.answers("34: ENTRIES", 150, x -> x.count(4));
        full.answers("34: CLAIMS", 140, x -> x.count(5));
        full.answers("12: the first of the last", 140, x -> x.returned(7, 3));
        full.answers("14: HIDES of none of them", 0, x -> x.claimed(3));
        full.answers("32: all of them are WORSE", 140, x -> x.worse(0));
    }

    private static void returns() {
        int[][] due = {{0, NONE, 2, 0}, {NONE, 0, 2, 2}};
        for (int i = 0; i < 2; i++) {
            for (int what = 0; what < 4; what++) {
                int r = i;
                int w = what;
                TOLD.answers("12: Of a RETURN what " + w, due[r][w], x -> x.returned(r, w));
            }
            for (int bad : outside(4)) {
                int r = i;
                TOLD.answersAndLeavesAll("12: NONE for what " + bad, NONE, x -> x.returned(r, bad));
            }
        }
        for (int bad : outside(2)) {
            for (int what = 0; what < 4; what++) {
                int w = what;
                TOLD.answersAndLeavesAll("12: NONE for a RETURN " + bad, NONE, x -> x.returned(bad, w));
            }
        }
        Scene last = told(sworn(SETTLED, 1, "in bray odo has 1 was"), 2, "in bray odo has 1 was");
        last.answers("12: the last HUNDRED's jury", 1, x -> x.returned(0, 0));
        last.answers("12: the last LORD", 2, x -> x.returned(1, 1));
    }

    private static void returnsOfFullRolls() {
        Scene full = SETTLED.with(20, x -> Checks.told(x, 1, "in ashby odo has 1 was"));
        for (int what = 0; what < 4; what++) {
            int w = what;
            int[] last = {NONE, 1, 1, 19};
            full.answers("12: the 20th", last[w], x -> x.returned(19, w));
            full.answers("12: NONE for a 21st", NONE, x -> x.returned(20, w));
        }
    }

    private static void claimedHides() {
        for (int bad : outside(3)) {
            TOLD.answersAndLeavesAll("14: NONE, " + bad, NONE, x -> x.claimed(bad));
        }
        TOLD.answersAndLeavesAll("14: of the first", 7, x -> x.claimed(0));
        TOLD.answersAndLeavesAll("14: without CLAIMS, told by a LORD alone", 0, x -> x.claimed(1));
        TOLD.answersAndLeavesAll("14: without any ENTRY", 0, x -> x.claimed(2));
        Scene most = SETTLED.with(7, x -> Checks.sworn(x, 0, hides("cam", "odo", 999, 999, 999, 999, 999, 999, 999, 999, 999, 999)));
        most.answers("14: as many as come", 70 * 999, x -> x.claimed(2));
        Scene thirty = SETTLED;
        for (int i = 3; i < 30; i++) {
            String name = "n" + (char) ('a' + i % 26) + (i < 26 ? "" : "a");
            thirty = thirty.with(x -> Checks.village(x, 1, 0, name));
        }
        thirty = sworn(thirty, 1, "in nda odo has 8 hides");
        thirty.answers("14: of the 30th", 8, x -> x.claimed(29));
        thirty.answers("14: NONE of a 31st", NONE, x -> x.claimed(30));
        thirty.answers("15: the 30th alone", 1, x -> x.over());
        thirty.answers("18: all but the 30th", 29, x -> x.silent());
        thirty.answers("19: the last SILENT", 28, x -> x.silence(28));
        thirty.answers("19: NONE behind it", NONE, x -> x.silence(29));
        thirty.allows("16: FALL of the 30th", 1, x -> x.fall(29));
        thirty.refuses("16: NONE: 1 of a 31st", 1, x -> x.fall(30));
        thirty.allows("20: LAID in the 30th", 0, x -> x.lay(0, 29));
        thirty.refuses("20: NONE (1) of a 31st", 1, x -> x.lay(0, 30));
    }

    private static void villagesThatAreOver() {
        NEW.answersAndLeavesAll("15: without VILLAGES", 0, x -> x.over());
        SETTLED.answersAndLeavesAll("15: without CLAIMS, one being rated at 0", 0, x -> x.over());
        sworn(SETTLED, 0, hides("ashby", "odo", 2, 2)).answers("15: one less than it is rated at", 0, x -> x.over());
        sworn(SETTLED, 0, hides("ashby", "odo", 2, 3)).answers("15: as many as it is rated at", 0, x -> x.over());
        sworn(SETTLED, 0, hides("ashby", "odo", 3, 3)).answersAndLeavesAll("15: one more than it is rated at", 1, x -> x.over());
        sworn(SETTLED, 0, hides("cam", "odo", 0, 0)).answers("15: rated at 0, claimed 0", 0, x -> x.over());
        sworn(SETTLED, 0, hides("cam", "odo", 0, 1)).answers("15: rated at 0, claimed 1", 1, x -> x.over());
        told(SETTLED, 0, hides("cam", "odo", 9)).answers("15: a LORD's ENTRY is no CLAIM", 0, x -> x.over());
        Scene all = sworn(sworn(SETTLED, 0, hides("ashby", "odo", 6) + ";" + hides("cam", "odo", 1)), 1, hides("bray", "odo", 4));
        all.answers("15: all", 3, x -> x.over());
    }

    private static void fallOfNoneSuch() {
        for (int bad : outside(3)) {
            TOLD.refuses("16: NONE: 1, " + bad, 1, x -> x.fall(bad));
        }
        TOLD.allows("16: of the first", 1, x -> x.fall(0));
        TOLD.allows("16: of the last", 0, x -> x.fall(2));
        Checks.is("16: the tape stays", TOLD.with(x -> x.fall(0)).made().count(6), 20);
    }

    private static int[] ones(int many) {
        int[] all = new int[many];
        Arrays.fill(all, 1);
        return all;
    }

    private static void fallOfManyClaims() {
        for (int many = 1; many <= 12; many++) {
            int m = many;
            Scene scene = sworn(SETTLED, 0, hides("cam", "odo", ones(m)));
            scene.allows("16: 12 CLAIMS at most, " + m, m, x -> x.fall(2));
            scene.with(x -> x.fall(2)).answers("17: the last of them", m - 1, x -> x.falls(m - 1));
            scene.with(x -> x.fall(2)).answers("17: NONE behind it", NONE, x -> x.falls(m));
        }
        for (int many = 13; many <= 15; many++) {
            Scene scene = sworn(SETTLED, 0, hides("cam", "odo", ones(many))).with(x -> Checks.sworn(x, 0, hides("ashby", "odo", 3, 3)));
            scene.with(x -> x.fall(0)).fed("ashby").refuses("16: 3 (more), " + many, 3, x -> x.fall(2));
        }
        Scene others = told(sworn(SETTLED, 0, hides("cam", "odo", ones(12))), 0, hides("cam", "odo", ones(12)));
        others.allows("16: a LORD's ENTRIES are no CLAIMS", 12, x -> x.fall(2));
        sworn(others, 0, hides("ashby", "odo", ones(5))).allows("16: nor are those of other VILLAGES its", 12, x -> x.fall(2));
        sworn(others, 0, hides("cam", "odo", 0)).refuses("16: 3 (more) by a CLAIM without HIDES", 3, x -> x.fall(2));
        Scene wide = SETTLED.with(x -> Checks.village(x, 1, 200, "dale"));
        sworn(wide, 1, hides("dale", "odo", ones(12))).allows("16: 12 that aren't OVER", 0, x -> x.fall(3));
        sworn(wide, 1, hides("dale", "odo", ones(13))).refuses("16: 3 (more), though it isn't OVER", 3, x -> x.fall(3));
    }

    private static void fallOfVillagesThatArentOver() {
        SETTLED.allows("16: 0 without CLAIMS", 0, x -> x.fall(0));
        SETTLED.allows("16: 0 without CLAIMS, rated at 0", 0, x -> x.fall(2));
        sworn(SETTLED, 0, hides("ashby", "odo", 2, 2)).allows("16: 0 for one less", 0, x -> x.fall(0));
        sworn(SETTLED, 0, hides("ashby", "odo", 2, 3)).allows("16: 0 if it isn't OVER", 0, x -> x.fall(0));
        sworn(SETTLED, 0, hides("ashby", "odo", 3, 3)).allows("16: 1 for one more", 1, x -> x.fall(0));
        sworn(SETTLED, 0, hides("cam", "odo", 0, 0)).allows("16: 0 for none of none", 0, x -> x.fall(2));
        sworn(SETTLED, 0, hides("cam", "odo", 0, 1)).allows("16: 1 for one of none", 1, x -> x.fall(2));
    }

    private static String fallen(Scene scene, int village) {
        KingdomSurvey x = scene.made();
        int many = x.fall(village);
        StringBuilder all = new StringBuilder();
        for (int i = 0; i < many; i++) {
            all.append(x.falls(i)).append(' ');
        }
        return all.toString().trim();
    }

    private static void falls(String sentence, String due, int... hides) {
        String got = fallen(sworn(SETTLED, 0, hides("ashby", "odo", hides)), 0);
        Checks.is(sentence + ", due " + due + ", got " + got, got.equals(due), true);
    }

    private static void fallen() {
        falls("16: the fewest, though others have fewer HIDES", "3", 1, 1, 1, 4, 2);
        falls("16: one that just does", "1", 3, 2, 2);
        falls("16: one that just doesn't", "0 1", 3, 3, 5);
        falls("16: of as few the least HIDES", "1", 4, 3, 1);
        falls("16: of as few, two, the least HIDES", "0 2", 9, 5, 4);
        falls("16: of as little the first", "1", 1, 3, 3);
        falls("16: of as little the first of three", "0 1 3", 1, 4, 2, 5, 3);
        falls("16: of as little the first, then the second", "0 1", 3, 3, 3, 2);
        falls("16: CLAIMS without HIDES never fall", "1", 0, 6, 0);
        falls("16: the greatest alone", "0", 999, 5);
        falls("16: all but one of the rate", "0 1 2", 9, 9, 9, 5);
        falls("16: all", "0 1", 999, 999);
    }

    private static void fallsOfTheLatestFall() {
        NEW.answersAndLeavesAll("17: NONE ahead of any", NONE, x -> x.falls(0));
        SETTLED.with(x -> x.fall(9)).answers("17: NONE behind a refused one", NONE, x -> x.falls(0));
        Scene two = sworn(SETTLED, 0, hides("ashby", "odo", 9, 9)).with(x -> x.fall(0));
        two.answersAndLeavesAll("17: The first", 0, x -> x.falls(0));
        two.answersAndLeavesAll("17: The second", 1, x -> x.falls(1));
        for (int bad : outside(2)) {
            two.answersAndLeavesAll("17: NONE, " + bad, NONE, x -> x.falls(bad));
        }
        two.with(x -> x.fall(3)).answers("17: that told a number, not by 1", 1, x -> x.falls(1));
        Scene thirteen = sworn(two, 0, hides("cam", "odo", ones(13)));
        thirteen.with(x -> x.fall(2)).answers("17: that told a number, not by 3", 1, x -> x.falls(1));
        two.with(x -> x.fall(1)).answers("17: 0 is a number", NONE, x -> x.falls(0));
        sworn(two, 0, hides("ashby", "odo", 9)).answers("17: as it was then", NONE, x -> x.falls(2));
        sworn(two, 0, hides("ashby", "odo", 9)).with(x -> x.fall(0)).answers("17: the latest", 2, x -> x.falls(2));
    }

    private static void silentVillages() {
        NEW.answersAndLeavesAll("18: without VILLAGES", 0, x -> x.silent());
        NEW.answersAndLeavesAll("19: NONE without VILLAGES", NONE, x -> x.silence(0));
        SETTLED.answersAndLeavesAll("18: all", 3, x -> x.silent());
        for (int i = 0; i < 3; i++) {
            int k = i;
            SETTLED.answersAndLeavesAll("19: The i-th", k, x -> x.silence(k));
        }
        for (int bad : outside(3)) {
            SETTLED.answersAndLeavesAll("19: NONE of three, " + bad, NONE, x -> x.silence(bad));
        }
        TOLD.answersAndLeavesAll("18: told by a LORD alone", 2, x -> x.silent());
        TOLD.answersAndLeavesAll("19: the first of two", 1, x -> x.silence(0));
        TOLD.answersAndLeavesAll("19: the second of two", 2, x -> x.silence(1));
        for (int bad : outside(2)) {
            TOLD.answersAndLeavesAll("19: NONE of two, " + bad, NONE, x -> x.silence(bad));
        }
        Scene none = sworn(sworn(SETTLED, 0, "in cam odo has 0 was;in ashby odo has 0 was"), 1, "in bray odo has 0 was");
        none.answers("18: a CLAIM of nothing is one", 0, x -> x.silent());
        none.answers("19: NONE of none", NONE, x -> x.silence(0));
    }

    private static void layOfNoneSuch() {
        for (int bad : outside(3)) {
            TOLD.refuses("20: NONE (1): a LORD " + bad, 1, x -> x.lay(bad, 0));
            TOLD.refuses("20: NONE (1): a VILLAGE " + bad, 1, x -> x.lay(0, bad));
            TOLD.refuses("20: NONE (1): both " + bad, 1, x -> x.lay(bad, bad));
        }
        TOLD.allows("20: of the first", 1, x -> x.lay(0, 0));
        TOLD.allows("20: of the last LORD in the last VILLAGE", 0, x -> x.lay(2, 2));
        Checks.is("20: the tape stays", TOLD.with(x -> x.lay(0, 0)).made().count(6), 20);
    }

    private static void layOfFewAndMany() {
        SETTLED.allows("20: without ENTRIES", 0, x -> x.lay(0, 0));
        sworn(SETTLED, 0, hides("ashby", "odo", 1)).allows("20: CLAIMS alone", 0, x -> x.lay(0, 0));
        told(SETTLED, 0, hides("ashby", "odo", 1)).allows("20: told ones alone", 0, x -> x.lay(0, 0));
        for (int own = 1; own <= 8; own++) {
            for (int claims = 1; claims <= 8; claims++) {
                Scene scene = sworn(told(SETTLED, 0, hides("ashby", "odo", ones(own))), 0, hides("ashby", "odo", ones(claims)));
                scene.allows("20: as many as can be of " + own + " and " + claims, Math.min(6, Math.min(own, claims)), x -> x.lay(0, 0));
            }
        }
        Scene seventhOwn = sworn(told(SETTLED, 0, hides("ashby", "odo", 9, 9, 9, 9, 9, 9, 1)), 0, hides("ashby", "odo", 1));
        seventhOwn.with(x -> x.lay(0, 0)).answers("20: the first 6 of its own are looked at alone", 8, x -> x.difference());
        seventhOwn.with(x -> x.lay(0, 0)).answers("22: so the first of them is paired", 0, x -> x.pair(0, false));
        Scene sixthOwn = sworn(told(SETTLED, 0, hides("ashby", "odo", 9, 9, 9, 9, 9, 1)), 0, hides("ashby", "odo", 1));
        sixthOwn.with(x -> x.lay(0, 0)).answers("20: the sixth of its own is", 0, x -> x.difference());
        Scene seventhClaim = sworn(told(SETTLED, 0, hides("ashby", "odo", 1)), 0, hides("ashby", "odo", 9, 9, 9, 9, 9, 9, 1));
        seventhClaim.with(x -> x.lay(0, 0)).answers("20: the first 6 CLAIMS are looked at alone", 8, x -> x.difference());
        Scene sixthClaim = sworn(told(SETTLED, 0, hides("ashby", "odo", 1)), 0, hides("ashby", "odo", 9, 9, 9, 9, 9, 1));
        sixthClaim.with(x -> x.lay(0, 0)).answers("20: the sixth CLAIM is", 0, x -> x.difference());
        Scene others = sworn(told(SETTLED, 0, hides("ashby", "hugh", ones(6)) + ";" + hides("cam", "odo", ones(6)) + ";" + hides("ashby", "odo", 4)),
                0, hides("ashby", "hugh", ones(6)) + ";" + hides("cam", "odo", ones(6)) + ";" + hides("ashby", "odo", 7));
        others.allows("20: the first 6 that are its, in the VILLAGE", 1, x -> x.lay(0, 0));
        others.with(x -> x.lay(0, 0)).answers("21: of these", 3, x -> x.difference());
        others.allows("20: what it told of another one isn't laid", 0, x -> x.lay(1, 0));
    }

    private static void layBehindALay() {
        Scene many = told(sworn(SETTLED, 0, hides("ashby", "odo", 1, 2, 3, 4, 5, 6)), 0, hides("ashby", "odo", 9, 8, 7, 6, 5, 4));
        Scene few = told(sworn(many, 0, hides("cam", "odo", 5)), 0, hides("cam", "odo", 9, 7, 8));
        few.with(x -> x.lay(0, 0)).allows("20: fewer behind more", 1, x -> x.lay(0, 2));
        few.with(x -> x.lay(0, 0)).with(x -> x.lay(0, 2)).answers("21: of the latest", 2, x -> x.difference());
        few.with(x -> x.lay(0, 0)).with(x -> x.lay(0, 2)).answers("22: of the latest", 14, x -> x.pair(0, false));
        few.with(x -> x.lay(0, 0)).with(x -> x.lay(0, 2)).answers("22: the CLAIM of the latest", 12, x -> x.pair(0, true));
        few.with(x -> x.lay(0, 0)).with(x -> x.lay(0, 2)).answers("22: NONE behind it", NONE, x -> x.pair(1, true));
        few.with(x -> x.lay(0, 2)).allows("20: more behind fewer", 6, x -> x.lay(0, 0));
        few.with(x -> x.lay(0, 2)).with(x -> x.lay(0, 0)).answers("21: of the latest, more", 18, x -> x.difference());
        Scene claims = sworn(told(many, 0, hides("cam", "odo", 5)), 0, hides("cam", "odo", 9, 7, 8));
        claims.with(x -> x.lay(0, 0)).with(x -> x.lay(0, 2)).answers("21: fewer of its own behind more", 2, x -> x.difference());
        claims.with(x -> x.lay(0, 0)).with(x -> x.lay(0, 2)).answers("22: the CLAIM", 14, x -> x.pair(0, true));
        Scene farther = told(sworn(SETTLED, 0, hides("ashby", "odo", 100, 0)), 0, hides("ashby", "odo", 100, 0));
        farther = told(sworn(farther, 0, hides("cam", "odo", 5, 6)), 0, hides("cam", "odo", 6)).with(x -> x.lay(0, 0));
        farther.with(x -> x.lay(0, 2)).answers("22: the nearer, whatever was laid ahead", 5, x -> x.pair(0, true));
        Scene without = told(sworn(SETTLED, 0, hides("ashby", "odo", 9, 5)), 0, hides("ashby", "odo", 9, 5, 5));
        without = told(sworn(without, 0, hides("cam", "odo", 9)), 0, hides("cam", "odo", 9, 5)).with(x -> x.lay(0, 0));
        without.allows("20: one without any, whatever was laid ahead", 1, x -> x.lay(0, 2));
        Scene none = told(many, 0, hides("cam", "odo", 5));
        none.with(x -> x.lay(0, 0)).allows("20: none behind some", 0, x -> x.lay(0, 2));
    }

    private static void differenceOfTheLatestLay() {
        NEW.answersAndLeavesAll("21: NONE ahead of any", NONE, x -> x.difference());
        SETTLED.with(x -> x.lay(9, 0)).answers("21: NONE ahead of any that told a number", NONE, x -> x.difference());
        SETTLED.with(x -> x.lay(0, 0)).answersAndLeavesAll("21: 0 without pairs", 0, x -> x.difference());
        TOLD.answersAndLeavesAll("21: of the latest", 1 + 4 + 1 + 40 + 60, x -> x.difference());
        TOLD.with(x -> x.lay(0, 3)).answers("21: that told a number", 106, x -> x.difference());
        TOLD.with(x -> x.lay(1, 1)).answers("21: 0 is a number", 0, x -> x.difference());
        String all = "in cam odo has 999hides,999ploughs,999mills,999worth,999was";
        Scene far = told(told(SETTLED, 0, Checks.times(6, all)), 0, "in cam odo has 1was");
        far = sworn(far, 0, Checks.times(6, "in cam odo has 0was"));
        far.allows("20: six pairs, as far apart as can be", 6, x -> x.lay(0, 2));
        far.with(x -> x.lay(0, 2)).answers("21: as far apart as can be", 6 * 5 * 999, x -> x.difference());
    }

    private static void pairsOfTheLatestLay() {
        for (boolean claim : new boolean[] {false, true}) {
            NEW.answersAndLeavesAll("22: NONE ahead of any", NONE, x -> x.pair(0, claim));
            TOLD.answersAndLeavesAll("22: the first", claim ? 0 : 2, x -> x.pair(0, claim));
            for (int bad : outside(1)) {
                TOLD.answersAndLeavesAll("22: NONE of one, " + bad, NONE, x -> x.pair(bad, claim));
            }
            TOLD.with(x -> x.lay(9, 0)).answers("22: of the latest that told a number", claim ? 0 : 2, x -> x.pair(0, claim));
            TOLD.with(x -> x.lay(1, 0)).answers("22: NONE of none", NONE, x -> x.pair(0, claim));
            Scene six = sworn(told(SETTLED, 0, hides("ashby", "odo", ones(7))), 0, hides("ashby", "odo", ones(7))).with(x -> x.lay(0, 0));
            for (int i = 0; i < 6; i++) {
                int k = i;
                six.answers("22: the i-th by the LORD's ENTRIES", claim ? 7 + k : k, x -> x.pair(k, claim));
            }
            for (int bad : outside(6)) {
                six.answers("22: NONE of six, " + bad, NONE, x -> x.pair(bad, claim));
            }
        }
    }

    private static void heldThings() {
        for (boolean all : new boolean[] {false, true}) {
            for (int bad : outside(3)) {
                TOLD.answersAndLeavesAll("23: NONE for a LORD " + bad, NONE, x -> x.held(bad, 0, all));
            }
            for (int bad : outside(5)) {
                TOLD.answersAndLeavesAll("23: NONE for a THING " + bad, NONE, x -> x.held(0, bad, all));
            }
            NEW.answers("23: NONE without LORDS", NONE, x -> x.held(0, 0, all));
            TOLD.answersAndLeavesAll("23: nothing", 0, x -> x.held(2, 4, all));
        }
        int[][] due = {{3, 4, 1, 40, 60}, {7, 4, 1, 49, 60}};
        for (int thing = 0; thing < 5; thing++) {
            int t = thing;
            TOLD.answersAndLeavesAll("23: alone, " + t, due[0][t], x -> x.held(0, t, false));
            TOLD.answersAndLeavesAll("23: with all, " + t, due[1][t], x -> x.held(0, t, true));
        }
        Scene chain = chainOfSixteen();
        chain.answers("23: of these, and so on, down to the 16th", 9, x -> x.held(0, 0, true));
        chain.answers("23: the 16th alone", 9, x -> x.held(15, 0, false));
        chain.answers("23: the first alone", 0, x -> x.held(0, 0, false));
        chain.answers("23: NONE of a 17th", NONE, x -> x.held(16, 0, true));
    }

    /** Sixteen lords, each under the one ahead of it; the last has a claim of 9 hides. */
    private static Scene chainOfSixteen() {
        Scene scene = SETTLED;
        for (int i = 3; i < 16; i++) {
            int number = i;
            scene = scene.with(x -> Checks.lord(x, number - 1, "l" + (char) ('a' + number)));
        }
        return sworn(scene, 0, "in ashby lp has 9 hides");
    }

    private static void lordsUnder() {
        for (int bad : outside(3)) {
            TOLD.answersAndLeavesAll("24: NONE, " + bad, NONE, x -> x.under(bad));
        }
        for (int lord = 0; lord < 3; lord++) {
            int l = lord;
            TOLD.answersAndLeavesAll("24: of a LORD, of these, and so on", 2 - l, x -> x.under(l));
        }
        NEW.answers("24: NONE without LORDS", NONE, x -> x.under(0));
        Scene firstBelow = SETTLED.with(x -> Scene.yes(x.holds(1, -1))).with(x -> Scene.yes(x.holds(0, 2)));
        firstBelow.answers("24: the first holds of the last", 1, x -> x.under(2));
        firstBelow.answers("24: and so on", 2, x -> x.under(1));
        firstBelow.answers("24: and nobody of the first", 0, x -> x.under(0));
        chainOfSixteen().answers("24: fifteen", 15, x -> x.under(0));
        chainOfSixteen().answers("24: none below the last", 0, x -> x.under(15));
        chainOfSixteen().answers("24: NONE of a 17th", NONE, x -> x.under(16));
    }

    private static void lordsOnTop() {
        for (int bad : outside(3)) {
            TOLD.answersAndLeavesAll("25: NONE, " + bad, NONE, x -> x.top(bad));
        }
        TOLD.answersAndLeavesAll("25: itself, if it holds of the king", 0, x -> x.top(0));
        TOLD.answersAndLeavesAll("25: OVERLORD", 0, x -> x.top(1));
        TOLD.answersAndLeavesAll("25: OVERLORD of OVERLORDS", 0, x -> x.top(2));
        NEW.answers("25: NONE without LORDS", NONE, x -> x.top(0));
        chainOfSixteen().answers("25: through fifteen", 0, x -> x.top(15));
        chainOfSixteen().with(x -> Scene.yes(x.holds(1, -1))).answers("25: through fourteen", 1, x -> x.top(15));
        chainOfSixteen().answers("25: NONE of a 17th", NONE, x -> x.top(16));
    }

    private static void greatestLord() {
        for (int thing = 0; thing < 5; thing++) {
            int t = thing;
            NEW.answersAndLeavesAll("26: -2 without LORDS", -2, x -> x.greatest(t));
            SETTLED.answersAndLeavesAll("26: of as much, nothing, the least", 0, x -> x.greatest(t));
        }
        for (int bad : outside(5)) {
            NEW.answersAndLeavesAll("26: NONE without LORDS, " + bad, NONE, x -> x.greatest(bad));
            TOLD.answersAndLeavesAll("26: NONE, " + bad, NONE, x -> x.greatest(bad));
        }
        Scene apart = SETTLED.with(x -> Scene.yes(x.holds(1, -1))).with(x -> Scene.yes(x.holds(2, -1)));
        sworn(apart, 0, hides("ashby", "wace", 5) + ";" + hides("ashby", "hugh", 5)).answers("26: of as much the least", 1, x -> x.greatest(0));
        sworn(apart, 0, hides("ashby", "wace", 6) + ";" + hides("ashby", "hugh", 5)).answers("26: one more", 2, x -> x.greatest(0));
        sworn(apart.with(x -> Scene.yes(x.holds(0, 2))), 0, hides("ashby", "odo", 5)).answers("26: with all, the overlord has as much", 0, x -> x.greatest(0));
        sworn(apart.with(x -> Scene.yes(x.holds(0, 2))), 0, hides("ashby", "wace", 1)).answers("26: with all, and more", 2, x -> x.greatest(0));
        chainOfSixteen().answers("26: all have as much", 0, x -> x.greatest(0));
        chainOfSixteen().with(x -> Scene.yes(x.holds(15, -1))).answers("26: the 16th", 15, x -> x.greatest(0));
    }

    private static void sumsOfHundreds() {
        int[] due = {7, 4, 1, 49, 60};
        for (int thing = 0; thing < 5; thing++) {
            int t = thing;
            TOLD.answersAndLeavesAll("27: A THING (0 .. 4), " + t, due[t], x -> x.sum(0, t));
            TOLD.answersAndLeavesAll("27: without CLAIMS, " + t, 0, x -> x.sum(1, t));
            for (int bad : outside(2)) {
                TOLD.answersAndLeavesAll("27: NONE for a HUNDRED " + bad, NONE, x -> x.sum(bad, t));
            }
        }
        for (int bad : outside(5)) {
            TOLD.answersAndLeavesAll("27: NONE for a THING " + bad, NONE, x -> x.sum(1, bad));
        }
        NEW.answers("27: NONE without HUNDREDS", NONE, x -> x.sum(0, 0));
        NEW.with(8, KingdomSurvey::hundred).answers("27: the 8th", 0, x -> x.sum(7, 0));
        NEW.with(8, KingdomSurvey::hundred).answers("27: NONE of a 9th", NONE, x -> x.sum(8, 0));
    }

    private static void ratesOutOfBounds() {
        for (int bad : new int[] {-1, 1001, 1002, LEAST, MOST}) {
            TOLD.refuses("28: false (2): HIDE " + bad, 2, x -> Scene.yes(x.rates(bad, 7, 7, 7)));
            TOLD.refuses("28: false (2): PLOUGH " + bad, 2, x -> Scene.yes(x.rates(7, bad, 7, 7)));
            TOLD.refuses("28: false (2): MILL " + bad, 2, x -> Scene.yes(x.rates(7, 7, bad, 7)));
        }
        for (int bad : new int[] {-1, 101, 102, 1000, LEAST, MOST}) {
            TOLD.refuses("28: false (2): SHARE " + bad, 2, x -> Scene.yes(x.rates(7, 7, 7, bad)));
        }
        TOLD.refuses("28: false (2): all", 2, x -> Scene.yes(x.rates(-1, 1001, -1, 101)));
    }

    private static void ratesAtTheirBounds() {
        for (int good : new int[] {0, 1, 999, 1000}) {
            TOLD.allows("28: true: HIDE " + good, 1, x -> Scene.yes(x.rates(good, 0, 0, 100)));
            TOLD.allows("28: true: PLOUGH " + good, 1, x -> Scene.yes(x.rates(0, good, 0, 100)));
            TOLD.allows("28: true: MILL " + good, 1, x -> Scene.yes(x.rates(0, 0, good, 100)));
        }
        for (int good : new int[] {0, 1, 99, 100}) {
            TOLD.allows("28: true: SHARE " + good, 1, x -> Scene.yes(x.rates(1000, 1000, 1000, good)));
        }
        Checks.is("28: the tape stays", TOLD.with(x -> Scene.yes(x.rates(0, 0, 0, 0))).made().count(6), 20);
        Scene rich = sworn(SETTLED, 0, "in ashby odo has 1hides,999worth").with(x -> Checks.sworn(x, 0, "in ashby hugh has 1ploughs,999worth"))
                .with(x -> Checks.sworn(x, 0, "in ashby wace has 1mills,999worth"));
        rich.answers("28: ahead of any RATES", 0, x -> x.tax(-1));
        for (int rate : new int[] {0, 1, 998, 999, 1000}) {
            int due = Math.min(rate, 999);
            rich.with(x -> Scene.yes(x.rates(rate, 0, 0, 100))).answers("28: HIDE becomes " + rate, due, x -> x.tax(0));
            rich.with(x -> Scene.yes(x.rates(0, rate, 0, 100))).answers("28: PLOUGH becomes " + rate, due, x -> x.tax(1));
            rich.with(x -> Scene.yes(x.rates(0, 0, rate, 100))).answers("28: MILL becomes " + rate, due, x -> x.tax(2));
        }
        for (int share : new int[] {0, 1, 50, 99, 100}) {
            rich.with(x -> Scene.yes(x.rates(1000, 0, 0, share))).answers("28: SHARE becomes " + share, 999 * share / 100, x -> x.tax(0));
        }
    }

    private static void taxOfOthers() {
        for (int bad : new int[] {-2, 3, 4, LEAST, MOST}) {
            TOLD.answersAndLeavesAll("29: NONE for others, " + bad, NONE, x -> x.tax(bad));
        }
        TOLD.answersAndLeavesAll("29: -1: of all CLAIMS", 20 + 4, x -> x.tax(-1));
        TOLD.answersAndLeavesAll("29: of the first", 20, x -> x.tax(0));
        TOLD.answersAndLeavesAll("29: its own CLAIMS alone", 4, x -> x.tax(1));
        TOLD.answersAndLeavesAll("29: of the last, without CLAIMS", 0, x -> x.tax(2));
        NEW.answers("29: NONE without LORDS", NONE, x -> x.tax(0));
        NEW.answers("29: -1 without CLAIMS", 0, x -> x.tax(-1));
        chainOfSixteen().answers("29: of the 16th", 0, x -> x.tax(15));
        chainOfSixteen().answers("29: NONE of a 17th", NONE, x -> x.tax(16));
    }

    private static void raisedBelowNothing() {
        for (int bad : new int[] {-1, -2, LEAST}) {
            TOLD.refuses("30: NONE (2: a sum below 0), " + bad, 2, x -> x.raised(bad));
        }
        TOLD.allows("30: a sum of 0", 0, x -> x.raised(0));
        TOLD.allows("30: the greatest sum", -2, x -> x.raised(MOST));
        Checks.is("30: the tape stays", TOLD.with(x -> x.raised(0)).made().count(6), 20);
    }

    private static void raisedAsFarAsItGoes() {
        Scene one = sworn(SETTLED, 0, "in ashby odo has 1hides,999worth");
        for (int pence = 0; pence <= 999; pence++) {
            int p = pence;
            one.allows("30: no less than a sum, " + p, p, x -> x.raised(p));
        }
        one.allows("30: -2 if 1,000 don't do", -2, x -> x.raised(1000));
        Scene rated = one.with(x -> Scene.yes(x.rates(100, 0, 0, 100)));
        rated.allows("30: 0 for what TAX is already", 0, x -> x.raised(100));
        rated.allows("30: 1 for a penny more", 1, x -> x.raised(101));
        rated.allows("30: so many pence more", 899, x -> x.raised(999));
        rated.with(x -> x.raised(999)).answers("30: RATES stay", 100, x -> x.tax(-1));
        Scene shared = one.with(x -> Scene.yes(x.rates(0, 0, 0, 10)));
        shared.allows("30: up to SHARE", 99, x -> x.raised(99));
        shared.allows("30: -2 beyond SHARE", -2, x -> x.raised(100));
        Scene many = sworn(SETTLED, 0, "in ashby odo has 7hides,999worth;in ashby hugh has 1hides,3worth;in ashby wace has 0hides,999worth");
        many.allows("30: the least with which, 3", 3, x -> x.raised(24));
        many.allows("30: one CLAIM gives no more", 4, x -> x.raised(25));
        many.allows("30: 7 more for each", 4, x -> x.raised(31));
        many.allows("30: and on", 5, x -> x.raised(32));
        many.allows("30: all that there is", 143, x -> x.raised(1002));
        many.allows("30: more than there is", -2, x -> x.raised(1003));
        sworn(SETTLED, 0, "in ashby odo has 9 ploughs,999 worth").allows("30: -2 without HIDES", -2, x -> x.raised(1));
        told(SETTLED, 0, "in ashby odo has 9 hides,999 worth").allows("30: -2 without CLAIMS", -2, x -> x.raised(1));
    }

    private static void sparedClaims() {
        NEW.answersAndLeavesAll("31: without CLAIMS", 0, x -> x.spared());
        TOLD.answersAndLeavesAll("31: SHARE being less", 2, x -> x.spared());
        Scene ten = sworn(SETTLED, 0, "in ashby odo has 10 hides,20 worth");
        ten.with(x -> Scene.yes(x.rates(1, 0, 0, 51))).answers("31: SHARE more than RATES: 10 of 10.2", 0, x -> x.spared());
        ten.with(x -> Scene.yes(x.rates(1, 0, 0, 50))).answers("31: SHARE as much as RATES: 10 of 10", 0, x -> x.spared());
        ten.with(x -> Scene.yes(x.rates(1, 0, 0, 49))).answers("31: SHARE less than RATES: 9.8 of 10", 1, x -> x.spared());
        ten.with(x -> Scene.yes(x.rates(0, 0, 0, 0))).answers("31: nothing of nothing", 0, x -> x.spared());
        told(SETTLED.with(x -> Scene.yes(x.rates(1, 0, 0, 0))), 0, hides("ashby", "odo", 5)).answers("31: CLAIMS alone", 0, x -> x.spared());
    }

    private static void worseClaims() {
        for (int bad : outside(2)) {
            TOLD.answersAndLeavesAll("32: NONE, " + bad, NONE, x -> x.worse(bad));
        }
        TOLD.answersAndLeavesAll("32: in the first", 1, x -> x.worse(0));
        TOLD.answersAndLeavesAll("32: in the last", 0, x -> x.worse(1));
        NEW.answers("32: NONE without HUNDREDS", NONE, x -> x.worse(0));
        sworn(SETTLED, 0, "in ashby odo has 5 worth,4 was").answers("32: more than it was", 0, x -> x.worse(0));
        sworn(SETTLED, 0, "in ashby odo has 5 worth,5 was").answers("32: as much as it was", 0, x -> x.worse(0));
        sworn(SETTLED, 0, "in ashby odo has 5 worth,6 was").answers("32: less than it was", 1, x -> x.worse(0));
        sworn(SETTLED, 0, "in ashby odo has 1 was").answers("32: nothing told of its worth", 1, x -> x.worse(0));
        told(SETTLED, 0, "in ashby odo has 1 was").answers("32: CLAIMS alone", 0, x -> x.worse(0));
    }

    private static void ploughs() {
        NEW.answersAndLeavesAll("33: NONE without CLAIMS", NONE, x -> x.led(0));
        sworn(SETTLED, 0, "in ashby odo has 0 ploughs").answers("33: NONE without ploughs", NONE, x -> x.led(0));
        told(SETTLED, 0, "in ashby odo has 3 ploughs").answers("33: NONE by a LORD's ENTRY", NONE, x -> x.led(0));
        for (int bad : outside(4)) {
            TOLD.answersAndLeavesAll("33: NONE, " + bad, NONE, x -> x.led(bad));
        }
        Scene mixed = sworn(SETTLED, 1, "in bray odo has 1 ploughs;in bray odo has 0 ploughs");
        mixed = sworn(sworn(mixed, 0, "in ashby odo has 2 ploughs;in cam odo has 1 ploughs"), 1, "in bray odo has 999 ploughs");
        int[][] due = {{-1, NONE}, {0, 1}, {1, 0}, {2, 0}, {3, 0}, {4, 1}, {1002, 1}, {1003, NONE}, {LEAST, NONE}, {MOST, NONE}};
        for (int[] d : due) {
            mixed.answersAndLeavesAll("33: from 0 on, by ENTRIES in their order: " + d[0], d[1], x -> x.led(d[0]));
        }
    }

    private static void counts() {
        int[] due = {2, 3, 3, 2, 4, 2, 20};
        for (int what = 0; what <= 6; what++) {
            int w = what;
            TOLD.answersAndLeavesAll("34: what " + w, due[w], x -> x.count(w));
        }
        for (int bad : outside(7)) {
            TOLD.answersAndLeavesAll("34: NONE for others, " + bad, NONE, x -> x.count(bad));
        }
    }

    private static void troubles() {
        TOLD.answersAndLeavesAll("35: asking changes nothing", 4, x -> x.trouble());
        NEW.answersAndLeavesAll("35: 0 ahead of any", 0, x -> x.trouble());
        Scene.Step[] refused = {
            x -> x.fall(9), x -> x.raised(-1), x -> x.hundred(), x -> Checks.sworn(x, 0, "in x"), x -> Scene.yes(x.holds(0, 0))};
        for (int i = 0; i < refused.length; i++) {
            Scene full = SETTLED.with(6, KingdomSurvey::hundred);
            Scene then = full.with(refused[i]);
            Checks.is("35: TROUBLE " + (i + 1), then.made().trouble(), i + 1);
            for (Scene.Step allowed : new Scene.Step[] {
                x -> x.fall(0), x -> x.lay(0, 0), x -> x.raised(0), x -> x.raised(MOST), x -> x.find(0, true), x -> Scene.yes(x.holds(0, -1)),
                x -> Scene.yes(x.rates(0, 0, 0, 0)), x -> Checks.village(x, 0, 0, "dale"), x -> Checks.lord(x, -1, "emma"),
                x -> Checks.sworn(x, 0, "in cam odo has 1was"), x -> Checks.told(x, 0, "in cam odo has 1was")}) {
                Checks.is("35: 0 it wasn't, behind " + (i + 1), then.with(allowed).made().trouble(), 0);
            }
            Checks.is("35: feed() has no number, behind " + (i + 1), then.with(x -> x.feed(0, 0, 0, 0, 0)).made().trouble(), i + 1);
        }
        Checks.is("35: 0 it wasn't, a HUNDRED", SETTLED.with(x -> x.fall(9)).with(x -> x.hundred()).made().trouble(), 0);
    }
}
