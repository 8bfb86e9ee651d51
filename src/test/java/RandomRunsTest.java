import java.nio.charset.StandardCharsets;
import java.util.ArrayList;
import java.util.List;
import java.util.Random;
import java.util.regex.Matcher;
import java.util.regex.Pattern;

/** Random runs of 512 calls, each answer beside that of a plain second program. The seeds are fixed, so a run can be had again. */
public final class RandomRunsTest {
    private static final int RUNS = 1500;
    private static final int CALLS = 512;
    private static final String[] NAMES = {
        "a", "b", "c", "ab", "ba", "in", "has", "hides", "was", "ashby", "ashb", "bray", "odo", "abcdefghij", "zzzzzzzzzz"};
    private static final String[] THINGS = {"hides", "ploughs", "mills", "worth", "was"};

    private final Random random;
    private final KingdomSurvey x = new KingdomSurvey();
    private final Model model = new Model();
    private final int seed;
    /** How often a text or a name is spoilt, and how many names a run uses, and its texts, differ from run to run. */
    private final int spoilt;
    private final int named;
    private final int told;
    private int calls = 0;

    private RandomRunsTest(int seed) {
        this.seed = seed;
        random = new Random(seed);
        spoilt = random.nextInt(3) * 15;
        named = 2 + random.nextInt(random.nextBoolean() ? 4 : NAMES.length - 1);
        told = 1 + random.nextInt(3);
    }

    public static void main(String[] args) {
        for (int seed = 0; seed < RUNS && !Checks.anyWrong(); seed++) {
            new RandomRunsTest(seed).run();
        }
        Checks.finish();
    }

    private void run() {
        if (random.nextInt(6) != 0) {
            settle();
        }
        while (calls < CALLS && !Checks.anyWrong()) {
            int kind = random.nextInt(10);
            if (kind == 0) {
                founding();
            } else if (kind <= 2) {
                returning();
            } else {
                asking();
            }
        }
    }

    private void settle() {
        int hundreds = 1 + random.nextInt(2);
        for (int i = 0; i < hundreds; i++) {
            same("hundred()", x.hundred(), model.hundred());
        }
        for (int i = 0; i < named; i++) {
            putText(NAMES[i]);
            village(random.nextInt(hundreds), random.nextInt(20), NAMES[i].length());
            putText(NAMES[i]);
            lord(random.nextInt(i + 1) - 1, NAMES[i].length());
        }
    }

    private void founding() {
        switch (random.nextInt(5)) {
            case 0:
                same("hundred()", x.hundred(), model.hundred());
                break;
            case 1:
                village(number(8), random.nextInt(6) == 0 ? number(201) : random.nextInt(30), lengthOf(putText(name())));
                break;
            case 2:
                lord(number(16), lengthOf(putText(name())));
                break;
            case 3:
                int n = lengthOf(putText(name()));
                boolean lord = random.nextBoolean();
                same("find(" + n + ", " + lord + ")", x.find(n, lord), model.find(n, lord));
                break;
            default:
                feed(random.nextInt(), random.nextInt(), 0, random.nextInt(), 0x20202020);
        }
        same("trouble()", x.trouble(), model.trouble);
        same("count(6)", x.count(6), model.tape.length());
    }

    private void returning() {
        int hundred = number(model.hundreds);
        boolean jury = random.nextInt(3) != 0;
        int n = lengthOf(putText(text(jury ? hundred : -1)));
        if (jury) {
            same("sworn(" + hundred + ", " + n + ") of " + model.tape, x.sworn(hundred, n), model.sworn(hundred, n));
        } else {
            int lord = random.nextInt(4) == 0 ? number(model.lords.size()) : random.nextInt(told);
            same("told(" + lord + ", " + n + ") of " + model.tape, x.told(lord, n), model.told(lord, n));
        }
        same("trouble()", x.trouble(), model.trouble);
        same("fault()", x.fault(), model.fault);
        same("where()", x.where(), model.trouble == 4 ? model.place : -1);
        same("count(4)", x.count(4), model.entries.size());
    }

    private void asking() {
        int village = number(random.nextBoolean() ? told : model.villages.size());
        int lord = number(random.nextBoolean() ? told : model.lords.size());
        int hundred = number(model.hundreds);
        int thing = number(5);
        switch (random.nextInt(29)) {
            case 0: same("fault()", x.fault(), model.fault); break;
            case 1: same("where()", x.where(), model.trouble == 4 ? model.place : -1); break;
            case 2: { int i = number(model.entries.size()); int what = number(8);
                same("entry(" + i + ", " + what + ")", x.entry(i, what), model.entry(i, what)); break; }
            case 3: { int i = number(model.returns.size()); int what = number(4);
                same("returned(" + i + ", " + what + ")", x.returned(i, what), model.returned(i, what)); break; }
            case 4: same("claimed(" + village + ")", x.claimed(village), model.claimed(village)); break;
            case 5: same("over()", x.over(), model.over()); break;
            case 6: case 7: same("fall(" + village + ")", x.fall(village), model.fall(village)); break;
            case 8: case 9: { int i = number(model.fallen.size());
                same("falls(" + i + ")", x.falls(i), model.at(model.fallen, i)); break; }
            case 10: same("silent()", x.silent(), model.silences().size()); break;
            case 11: { int i = number(model.silences().size());
                same("silence(" + i + ")", x.silence(i), model.at(model.silences(), i)); break; }
            case 12: case 13: same("lay(" + lord + ", " + village + ")", x.lay(lord, village), model.lay(lord, village)); break;
            case 14: same("difference()", x.difference(), model.difference); break;
            case 15: case 16: { int i = number(model.laidOwn.size()); boolean claim = random.nextBoolean();
                same("pair(" + i + ", " + claim + ")", x.pair(i, claim), model.at(claim ? model.laidClaims : model.laidOwn, i)); break; }
            case 17: { boolean all = random.nextBoolean();
                same("held(" + lord + ", " + thing + ", " + all + ")", x.held(lord, thing, all), model.held(lord, thing, all)); break; }
            case 18: same("under(" + lord + ")", x.under(lord), model.under(lord)); break;
            case 19: same("top(" + lord + ")", x.top(lord), model.top(lord)); break;
            case 20: same("greatest(" + thing + ")", x.greatest(thing), model.greatest(thing)); break;
            case 21: same("sum(" + hundred + ", " + thing + ")", x.sum(hundred, thing), model.sum(hundred, thing)); break;
            case 22: { int[] r = {number(random.nextInt(1001) + 1), number(random.nextInt(200) + 1), number(20), number(101)};
                same("rates(..)", x.rates(r[0], r[1], r[2], r[3]) ? 1 : 0, model.setRates(r) ? 1 : 0); break; }
            case 23: { int whose = random.nextBoolean() ? -1 : lord;
                same("tax(" + whose + ")", x.tax(whose), model.tax(whose)); break; }
            case 24: { int wanted = random.nextInt(8) == 0 ? odd() : random.nextInt(1 + Math.max(1, model.tax(-1) + model.worthOfAll() / 4));
                same("raised(" + wanted + ")", x.raised(wanted), model.raised(wanted)); break; }
            case 25: same("spared()", x.spared(), model.spared()); break;
            case 26: same("worse(" + hundred + ")", x.worse(hundred), model.worse(hundred)); break;
            case 27: { int plough = number(1 + Math.max(0, model.ploughsOfAll()));
                same("led(" + plough + ")", x.led(plough), model.led(plough)); break; }
            default: { int over = random.nextInt(3) == 0 ? -1 : number(model.lords.size());
                same("holds(" + lord + ", " + over + ")", x.holds(lord, over) ? 1 : 0, model.holds(lord, over) ? 1 : 0); }
        }
        if (random.nextInt(3) == 0) {
            same("trouble()", x.trouble(), model.trouble);
        }
        int what = number(7);
        same("count(" + what + ")", x.count(what), model.count(what));
    }

    private void same(String call, long got, long due) {
        calls++;
        Checks.is("seed " + seed + ", call " + calls + ": " + call, got, due);
    }

    private void village(int hundred, int hides, int n) {
        same("village(" + hundred + ", " + hides + ", " + n + ")", x.village(hundred, hides, n), model.village(hundred, hides, n));
    }

    private void lord(int overlord, int n) {
        same("lord(" + overlord + ", " + n + ")", x.lord(overlord, n), model.lord(overlord, n));
    }

    private void feed(int a, int b, int c, int d, int e) {
        same("feed(..)", x.feed(a, b, c, d, e), model.feed(a, b, c, d, e));
    }

    /** Most often below the bound, at times just outside, at times far from it. */
    private int number(int bound) {
        int kind = random.nextInt(16);
        if (kind == 0) {
            return random.nextBoolean() ? -1 : bound;
        }
        if (kind == 1) {
            return odd();
        }
        return bound <= 0 ? 0 : random.nextInt(bound);
    }

    private int odd() {
        int[] some = {Integer.MIN_VALUE, Integer.MAX_VALUE, -2, -1, 0, 1, 2, 400, 401, 1000, 1001};
        return some[random.nextInt(some.length)];
    }

    private int lengthOf(int n) {
        return random.nextInt(20) == 0 ? number(model.tape.length() + 1) : n;
    }

    private int putText(String text) {
        byte[] bytes = text.getBytes(StandardCharsets.ISO_8859_1);
        if (!model.tape.isEmpty() && random.nextInt(6) != 0) {
            same("find(0, true)", x.find(0, true), model.find(0, true));
        }
        int ahead = model.tape.length();
        for (int from = 0; from < bytes.length; from += 20) {
            int[] f = Checks.numbers(bytes, from);
            feed(f[0], f[1], f[2], f[3], f[4]);
        }
        return Math.min(400, ahead + bytes.length);
    }

    private String name() {
        String name = NAMES[random.nextInt(named)];
        if (random.nextInt(3) == 0) {
            name = name + (char) ('a' + random.nextInt(26));
        }
        return random.nextInt(100) < spoilt ? spoil(name) : name;
    }

    private String text(int jury) {
        StringBuilder text = new StringBuilder();
        int entries = random.nextInt(12) == 0 ? 18 + random.nextInt(5) : 1 + random.nextInt(4);
        for (int i = 0; i < entries; i++) {
            text.append(i == 0 ? "" : ";").append(gap(entries)).append("in ").append(villageFor(jury)).append(' ');
            text.append(NAMES[random.nextInt(told)]).append(" has ");
            int items = entries > 10 ? 1 : 1 + random.nextInt(random.nextInt(12) == 0 ? 6 : 4);
            int first = random.nextInt(3) == 0 ? random.nextInt(5) : 0;
            for (int k = 0; k < items; k++) {
                text.append(k == 0 ? "" : ",").append(gap(entries)).append(random.nextInt(random.nextInt(9) == 0 ? 1000 : 9));
                text.append(gap(entries)).append(THINGS[(first + k) % 5]).append(gap(entries));
            }
        }
        return random.nextInt(100) < spoilt ? spoil(text.toString()) : text.toString();
    }

    /** Most often one of which the jury may tell. */
    private String villageFor(int jury) {
        String name = NAMES[random.nextInt(told)];
        for (int tries = 0; tries < 5; tries++) {
            int number = model.villages.indexOf(name);
            if (jury == -1 || (number >= 0 && model.villageFacts.get(number)[0] == jury)) {
                return name;
            }
            name = NAMES[random.nextInt(named)];
        }
        return name;
    }

    private String gap(int entries) {
        String[] gaps = {"", "", "", "", "", "", "", " ", "\n", "  "};
        return entries > 10 ? "" : gaps[random.nextInt(gaps.length)];
    }

    private String spoil(String text) {
        String[] bits = {"", " ", ",", ";", "in", " in ", "has", "1", "000", "a", "abcdefghij", "hides", ",1hides", ";in a a has 1was", "A", "\t", "\u00e9", "\0", "."};
        StringBuilder spoilt = new StringBuilder(text);
        int at = random.nextInt(text.length() + 1);
        if (random.nextBoolean() && at < text.length()) {
            spoilt.delete(at, Math.min(text.length(), at + 1 + random.nextInt(5)));
        }
        return spoilt.insert(Math.min(at, spoilt.length()), bits[random.nextInt(bits.length)]).toString();
    }

    /** The document once more, with the library, by trying everything. */
    private static final class Model {
        private static final Pattern TOKEN = Pattern.compile("[a-z]+|[0-9]+|,|;");

        private static final class Fault extends Exception {
            private static final long serialVersionUID = 1;
            private final int kind;
            private final int place;

            private Fault(int kind, int place) {
                this.kind = kind;
                this.place = place;
            }
        }

        private final List<String> villages = new ArrayList<>();
        private final List<int[]> villageFacts = new ArrayList<>();
        private final List<String> lords = new ArrayList<>();
        private final List<Integer> overlords = new ArrayList<>();
        private final List<int[]> entries = new ArrayList<>();
        private final List<int[]> returns = new ArrayList<>();
        private List<Integer> fallen = new ArrayList<>();
        private List<Integer> laidOwn = new ArrayList<>();
        private List<Integer> laidClaims = new ArrayList<>();
        private int difference = -1;
        private int[] rates = {0, 0, 0, 100};
        private String tape = "";
        private int hundreds = 0;
        private int trouble = 0;
        private int fault = 0;
        private int place = 0;

        private int no(int why) {
            trouble = why;
            return -1;
        }

        private int yes(int answer) {
            trouble = 0;
            return answer;
        }

        private int at(List<Integer> list, int i) {
            return i >= 0 && i < list.size() ? list.get(i) : -1;
        }

        private int hundred() {
            return hundreds == 8 ? no(3) : yes(hundreds++);
        }

        private int feed(int... numbers) {
            if (tape.length() + 20 > 400) {
                return -1;
            }
            StringBuilder bytes = new StringBuilder(tape);
            for (int number : numbers) {
                bytes.append((char) (number >>> 24)).append((char) (number >>> 16 & 255));
                bytes.append((char) (number >>> 8 & 255)).append((char) (number & 255));
            }
            tape = bytes.toString();
            return tape.length();
        }

        private String cut(int n) {
            String bytes = tape.substring(0, n);
            tape = "";
            return bytes;
        }

        private int whyNot(List<String> names, String name, int room) {
            if (!name.matches("[a-z]{1,10}")) {
                return 2;
            }
            return names.contains(name) ? 5 : names.size() == room ? 3 : 0;
        }

        private int village(int hundred, int hides, int n) {
            if (hundred < 0 || hundred >= hundreds) {
                return no(1);
            }
            if (n < 0 || n > tape.length() || hides < 0 || hides > 200) {
                return no(2);
            }
            String name = cut(n);
            int why = whyNot(villages, name, 30);
            if (why != 0) {
                return no(why);
            }
            villages.add(name);
            villageFacts.add(new int[] {hundred, hides});
            return yes(villages.size() - 1);
        }

        private int lord(int overlord, int n) {
            if (overlord < -1 || overlord >= lords.size()) {
                return no(1);
            }
            if (n < 0 || n > tape.length()) {
                return no(2);
            }
            String name = cut(n);
            int why = whyNot(lords, name, 16);
            if (why != 0) {
                return no(why);
            }
            lords.add(name);
            overlords.add(overlord);
            return yes(lords.size() - 1);
        }

        private int find(int n, boolean lord) {
            if (n < 0 || n > tape.length()) {
                return no(2);
            }
            int number = (lord ? lords : villages).indexOf(cut(n));
            return yes(number < 0 ? -2 : number);
        }

        private List<Integer> chain(int lord) {
            List<Integer> chain = new ArrayList<>();
            for (int l = lord; l != -1; l = overlords.get(l)) {
                chain.add(l);
            }
            return chain;
        }

        private boolean holds(int lord, int overlord) {
            if (lord < 0 || lord >= lords.size() || overlord < -1 || overlord >= lords.size()) {
                trouble = 1;
                return false;
            }
            if (overlord != -1 && chain(overlord).contains(lord)) {
                trouble = 5;
                return false;
            }
            overlords.set(lord, overlord);
            trouble = 0;
            return true;
        }

        private int sworn(int hundred, int n) {
            return hundred < 0 || hundred >= hundreds ? no(1) : takeReturn(n, hundred, -1);
        }

        private int told(int lord, int n) {
            return lord < 0 || lord >= lords.size() ? no(1) : takeReturn(n, -1, lord);
        }

        private int takeReturn(int n, int jury, int teller) {
            if (n < 0 || n > tape.length()) {
                return no(2);
            }
            fault = 0;
            List<int[]> read;
            try {
                read = parse(cut(n), jury);
            } catch (Fault f) {
                fault = f.kind;
                place = f.place;
                return no(4);
            }
            if (returns.size() == 20 || entries.size() + read.size() > 150) {
                return no(3);
            }
            returns.add(new int[] {jury, teller, read.size(), entries.size()});
            for (int[] entry : read) {
                entry[7] = returns.size() - 1;
                entries.add(entry);
            }
            return yes(returns.size() - 1);
        }

        /** States: 0 in, 1 village, 2 lord, 3 has, 4 number, 5 thing, 6 what follows an item. */
        private List<int[]> parse(String text, int jury) throws Fault {
            List<int[]> read = new ArrayList<>();
            int state = 0;
            int number = 0;
            boolean[] had = new boolean[5];
            Matcher matcher = TOKEN.matcher(text);
            int at = 0;
            while (true) {
                while (at < text.length() && " \n".indexOf(text.charAt(at)) >= 0) {
                    at++;
                }
                if (at == text.length()) {
                    if (state != 6) {
                        throw new Fault(1, at);
                    }
                    return read;
                }
                matcher.region(at, text.length());
                String token = matcher.lookingAt() ? matcher.group() : "";
                boolean word = token.matches("[a-z]{1,10}");
                boolean digits = token.matches("[0-9]{1,3}");
                boolean form;
                switch (state) {
                    case 0: form = token.equals("in"); break;
                    case 1: case 2: form = word; break;
                    case 3: form = token.equals("has"); break;
                    case 4: form = digits; break;
                    case 5: form = List.of(THINGS).contains(token); break;
                    default: form = token.equals(",") || token.equals(";");
                }
                if (!form) {
                    throw new Fault(1, at);
                }
                if (state == 0) {
                    if (read.size() == 20) {
                        throw new Fault(4, at);
                    }
                    read.add(new int[8]);
                    had = new boolean[5];
                }
                int[] entry = read.get(read.size() - 1);
                if (state == 1) {
                    entry[5] = villages.indexOf(token);
                    if (entry[5] < 0 || (jury >= 0 && villageFacts.get(entry[5])[0] != jury)) {
                        throw new Fault(2, at);
                    }
                } else if (state == 2) {
                    entry[6] = lords.indexOf(token);
                    if (entry[6] < 0) {
                        throw new Fault(2, at);
                    }
                } else if (state == 4) {
                    number = Integer.parseInt(token);
                } else if (state == 5) {
                    int thing = List.of(THINGS).indexOf(token);
                    if (had[thing]) {
                        throw new Fault(3, at);
                    }
                    had[thing] = true;
                    entry[thing] = number;
                }
                state = state == 6 ? (token.equals(",") ? 4 : 0) : state + 1;
                at += token.length();
            }
        }

        private int entry(int i, int what) {
            return i < 0 || i >= entries.size() || what < 0 || what > 7 ? -1 : entries.get(i)[what];
        }

        private int returned(int i, int what) {
            return i < 0 || i >= returns.size() || what < 0 || what > 3 ? -1 : returns.get(i)[what];
        }

        private List<Integer> claims() {
            List<Integer> claims = new ArrayList<>();
            for (int i = 0; i < entries.size(); i++) {
                if (returns.get(entries.get(i)[7])[0] != -1) {
                    claims.add(i);
                }
            }
            return claims;
        }

        private List<Integer> claimsIn(int village) {
            List<Integer> claims = claims();
            claims.removeIf(i -> entries.get(i)[5] != village);
            return claims;
        }

        private int total(List<Integer> numbers, int thing) {
            return numbers.stream().mapToInt(i -> entries.get(i)[thing]).sum();
        }

        private int claimed(int village) {
            return village < 0 || village >= villages.size() ? -1 : total(claimsIn(village), 0);
        }

        private int over() {
            int many = 0;
            for (int v = 0; v < villages.size(); v++) {
                many += claimed(v) > villageFacts.get(v)[1] ? 1 : 0;
            }
            return many;
        }

        private int fall(int village) {
            if (village < 0 || village >= villages.size()) {
                return no(1);
            }
            List<Integer> claims = claimsIn(village);
            if (claims.size() > 12) {
                return no(3);
            }
            List<Integer> best = null;
            for (int set = 0; set < 1 << claims.size(); set++) {
                List<Integer> chosen = new ArrayList<>();
                for (int k = 0; k < claims.size(); k++) {
                    if ((set >> k & 1) == 1) {
                        chosen.add(claims.get(k));
                    }
                }
                boolean enough = claimed(village) - total(chosen, 0) <= villageFacts.get(village)[1];
                if (enough && (best == null || fallsRather(chosen, best))) {
                    best = chosen;
                }
            }
            fallen = best;
            return yes(best.size());
        }

        private boolean fallsRather(List<Integer> one, List<Integer> other) {
            if (one.size() != other.size()) {
                return one.size() < other.size();
            }
            if (total(one, 0) != total(other, 0)) {
                return total(one, 0) < total(other, 0);
            }
            return isAhead(one, other);
        }

        private static boolean isAhead(List<Integer> one, List<Integer> other) {
            for (int i = 0; i < one.size(); i++) {
                if (!one.get(i).equals(other.get(i))) {
                    return one.get(i) < other.get(i);
                }
            }
            return false;
        }

        private List<Integer> silences() {
            List<Integer> silent = new ArrayList<>();
            for (int v = 0; v < villages.size(); v++) {
                if (claimsIn(v).isEmpty()) {
                    silent.add(v);
                }
            }
            return silent;
        }

        private int lay(int lord, int village) {
            if (lord < 0 || lord >= lords.size() || village < 0 || village >= villages.size()) {
                return no(1);
            }
            List<Integer> own = new ArrayList<>();
            for (int i = 0; i < entries.size(); i++) {
                int[] e = entries.get(i);
                if (e[5] == village && e[6] == lord && returns.get(e[7])[1] == lord && own.size() < 6) {
                    own.add(i);
                }
            }
            List<Integer> claims = claimsIn(village);
            claims.removeIf(i -> entries.get(i)[6] != lord);
            claims = claims.subList(0, Math.min(6, claims.size()));
            List<List<Integer>> all = new ArrayList<>();
            allWays(own, claims, new ArrayList<>(), all);
            List<Integer> best = all.get(0);
            for (List<Integer> way : all) {
                if (laidRather(own, way, best)) {
                    best = way;
                }
            }
            laidOwn = new ArrayList<>();
            laidClaims = new ArrayList<>();
            for (int i = 0; i < own.size(); i++) {
                if (best.get(i) != Integer.MAX_VALUE) {
                    laidOwn.add(own.get(i));
                    laidClaims.add(best.get(i));
                }
            }
            difference = apart(own, best);
            return yes(laidOwn.size());
        }

        /** A way has for each own entry its claim, or the greatest number if it has none. */
        private static void allWays(List<Integer> own, List<Integer> claims, List<Integer> way, List<List<Integer>> all) {
            if (way.size() == own.size()) {
                all.add(new ArrayList<>(way));
                return;
            }
            List<Integer> choices = new ArrayList<>(claims);
            choices.removeAll(way);
            choices.add(Integer.MAX_VALUE);
            for (Integer choice : choices) {
                way.add(choice);
                allWays(own, claims, way, all);
                way.remove(way.size() - 1);
            }
        }

        private boolean laidRather(List<Integer> own, List<Integer> one, List<Integer> other) {
            long less = one.stream().filter(c -> c == Integer.MAX_VALUE).count();
            long more = other.stream().filter(c -> c == Integer.MAX_VALUE).count();
            if (less != more) {
                return less < more;
            }
            if (apart(own, one) != apart(own, other)) {
                return apart(own, one) < apart(own, other);
            }
            return isAhead(one, other);
        }

        private int apart(List<Integer> own, List<Integer> way) {
            int together = 0;
            for (int i = 0; i < own.size(); i++) {
                if (way.get(i) != Integer.MAX_VALUE) {
                    for (int thing = 0; thing < 5; thing++) {
                        together += Math.abs(entries.get(own.get(i))[thing] - entries.get(way.get(i))[thing]);
                    }
                }
            }
            return together;
        }

        private int held(int lord, int thing, boolean all) {
            if (lord < 0 || lord >= lords.size() || thing < 0 || thing > 4) {
                return -1;
            }
            List<Integer> claims = claims();
            claims.removeIf(i -> all ? !chain(entries.get(i)[6]).contains(lord) : entries.get(i)[6] != lord);
            return total(claims, thing);
        }

        private int under(int lord) {
            if (lord < 0 || lord >= lords.size()) {
                return -1;
            }
            int many = -1;
            for (int l = 0; l < lords.size(); l++) {
                many += chain(l).contains(lord) ? 1 : 0;
            }
            return many;
        }

        private int top(int lord) {
            if (lord < 0 || lord >= lords.size()) {
                return -1;
            }
            List<Integer> chain = chain(lord);
            return chain.get(chain.size() - 1);
        }

        private int greatest(int thing) {
            if (thing < 0 || thing > 4) {
                return -1;
            }
            int best = -2;
            for (int l = lords.size() - 1; l >= 0; l--) {
                if (best == -2 || held(l, thing, true) >= held(best, thing, true)) {
                    best = l;
                }
            }
            return best;
        }

        private List<Integer> claimsOfHundred(int hundred) {
            List<Integer> claims = claims();
            claims.removeIf(i -> villageFacts.get(entries.get(i)[5])[0] != hundred);
            return claims;
        }

        private int sum(int hundred, int thing) {
            boolean wrong = hundred < 0 || hundred >= hundreds || thing < 0 || thing > 4;
            return wrong ? -1 : total(claimsOfHundred(hundred), thing);
        }

        private boolean setRates(int[] r) {
            boolean fit = r[3] <= 100;
            for (int i = 0; i < 4; i++) {
                fit = fit && r[i] >= 0 && r[i] <= 1000;
            }
            if (fit) {
                rates = r;
            }
            trouble = fit ? 0 : 2;
            return fit;
        }

        private long full(int claim, int more) {
            int[] e = entries.get(claim);
            return (long) (rates[0] + more) * e[0] + (long) rates[1] * e[1] + (long) rates[2] * e[2];
        }

        private long most(int claim) {
            return Math.floorDiv((long) rates[3] * entries.get(claim)[3], 100L);
        }

        private int taxOf(List<Integer> claims, int more) {
            return (int) claims.stream().mapToLong(i -> Math.min(full(i, more), most(i))).sum();
        }

        private int tax(int lord) {
            if (lord < -1 || lord >= lords.size()) {
                return -1;
            }
            List<Integer> claims = claims();
            claims.removeIf(i -> lord != -1 && entries.get(i)[6] != lord);
            return taxOf(claims, 0);
        }

        private int raised(int wanted) {
            if (wanted < 0) {
                return no(2);
            }
            List<Integer> claims = claims();
            for (int pence = 0; pence <= 1000; pence++) {
                if (taxOf(claims, pence) >= wanted) {
                    return yes(pence);
                }
            }
            return yes(-2);
        }

        private int spared() {
            return (int) claims().stream().filter(i -> most(i) < full(i, 0)).count();
        }

        private int worse(int hundred) {
            if (hundred < 0 || hundred >= hundreds) {
                return -1;
            }
            return (int) claimsOfHundred(hundred).stream().filter(i -> entries.get(i)[3] < entries.get(i)[4]).count();
        }

        private int led(int plough) {
            List<Integer> who = new ArrayList<>();
            for (int i : claims()) {
                for (int k = 0; k < entries.get(i)[1]; k++) {
                    who.add(villageFacts.get(entries.get(i)[5])[0]);
                }
            }
            return at(who, plough);
        }

        private int worthOfAll() {
            return total(claims(), 3);
        }

        private int ploughsOfAll() {
            return total(claims(), 1);
        }

        private int count(int what) {
            int[] counts = {hundreds, villages.size(), lords.size(), returns.size(), entries.size(), claims().size(), tape.length()};
            return what < 0 || what > 6 ? -1 : counts[what];
        }
    }
}
