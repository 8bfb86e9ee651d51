/**
 * A survey of a kingdom: villages, lords, the returns of juries and of lords,
 * and what can be asked of them. The document's promises say what each call answers.
 */
public final class KingdomSurvey {
    /** There is none; refused. */
    public static final int NONE = -1;

    /** Answered where a search or a trial found nothing, which isn't a refusal. */
    private static final int NOTHING_FOUND = -2;
    /** Stands for the king where an overlord, or all lords, may be named. */
    private static final int KING = -1;

    private static final int HUNDREDS = 8;
    private static final int VILLAGES = 30;
    private static final int LORDS = 16;
    private static final int RETURNS = 20;
    private static final int ENTRIES = 150;
    private static final int ENTRIES_OF_TEXT = 20;
    private static final int TAPE_BYTES = 400;
    private static final int FED_BYTES = 20;
    private static final int NAME_LETTERS = 10;
    private static final int NUMBER_DIGITS = 3;
    private static final int MOST_HIDES = 200;
    private static final int MOST_RATE = 1000;
    private static final int MOST_RAISE = 1000;
    private static final int MOST_SHARE = 100;
    private static final int FALL_CLAIMS = 12;
    private static final int LAID_ENTRIES = 6;

    /** What an entry tells, by the numbers that entry() takes. */
    private static final int HIDES = 0;
    private static final int PLOUGHS = 1;
    private static final int MILLS = 2;
    private static final int WORTH = 3;
    private static final int WAS = 4;
    private static final int THINGS = 5;
    private static final int OF_VILLAGE = 5;
    private static final int OF_LORD = 6;
    private static final int OF_RETURN = 7;
    private static final int ENTRY_ROWS = 8;
    /** A draft has no return yet, which is the last that an entry tells. */
    private static final int DRAFT_ROWS = OF_RETURN;

    /** What a return tells, by the numbers that returned() takes. */
    private static final int JURY = 0;
    private static final int TELLER = 1;
    private static final int MANY_ENTRIES = 2;
    private static final int FIRST_ENTRY = 3;
    private static final int RETURN_ROWS = 4;

    private static final int NOT_REFUSED = 0;
    private static final int NONE_SUCH = 1;
    private static final int NO_NUMBER_OR_NAME = 2;
    private static final int NO_ROOM = 3;
    private static final int FAULTY = 4;
    private static final int ALREADY = 5;

    private final Tape tape = new Tape();
    private final Villages villages = new Villages();
    private final Lords lords = new Lords();
    private final Rolls rolls = new Rolls();
    private final Reader reader = new Reader(tape, villages, lords);
    private final FewestFall fewestFall = new FewestFall();
    private final Laying laying = new Laying();
    private final Rates rates = new Rates();
    private int hundreds = 0;
    private int trouble = NOT_REFUSED;

    public KingdomSurvey() {
    }

    public int hundred() {
        if (hundreds >= HUNDREDS) {
            return refuse(NO_ROOM);
        }
        hundreds++;
        return allow(hundreds - 1);
    }

    public int feed(int a, int b, int c, int d, int e) {
        if (!tape.hasRoomFor(FED_BYTES)) {
            return NONE;
        }
        tape.append(a);
        tape.append(b);
        tape.append(c);
        tape.append(d);
        tape.append(e);
        return tape.length;
    }

    public int village(int hundred, int hides, int n) {
        if (!isHundred(hundred)) {
            return refuse(NONE_SUCH);
        }
        if (!tape.hasFirst(n) || !isWithin(hides, MOST_HIDES)) {
            return refuse(NO_NUMBER_OR_NAME);
        }
        int why = villages.names.troubleWith(tape, n);
        if (why == NOT_REFUSED) {
            villages.enter(tape, n, hundred, hides);
        }
        return answerNamed(villages.names, why);
    }

    public int lord(int overlord, int n) {
        if (overlord != KING && !lords.has(overlord)) {
            return refuse(NONE_SUCH);
        }
        if (!tape.hasFirst(n)) {
            return refuse(NO_NUMBER_OR_NAME);
        }
        int why = lords.names.troubleWith(tape, n);
        if (why == NOT_REFUSED) {
            lords.enter(tape, n, overlord);
        }
        return answerNamed(lords.names, why);
    }

    public boolean holds(int lord, int overlord) {
        if (!lords.has(lord) || (overlord != KING && !lords.has(overlord))) {
            trouble = NONE_SUCH;
        } else if (overlord == lord || lords.isBelow(overlord, lord)) {
            trouble = ALREADY;
        } else {
            lords.putUnder(lord, overlord);
            trouble = NOT_REFUSED;
        }
        return trouble == NOT_REFUSED;
    }

    public int sworn(int hundred, int n) {
        if (!isHundred(hundred)) {
            return refuse(NONE_SUCH);
        }
        if (!tape.hasFirst(n)) {
            return refuse(NO_NUMBER_OR_NAME);
        }
        return settle(reader.readText(n, hundred), hundred, NONE);
    }

    public int told(int lord, int n) {
        if (!lords.has(lord)) {
            return refuse(NONE_SUCH);
        }
        if (!tape.hasFirst(n)) {
            return refuse(NO_NUMBER_OR_NAME);
        }
        return settle(reader.readText(n, NONE), NONE, lord);
    }

    public int fault() {
        return reader.fault;
    }

    public int where() {
        return trouble == FAULTY ? reader.faultPlace : NONE;
    }

    public int entry(int i, int what) {
        return rolls.ofEntry(i, what);
    }

    public int returned(int i, int what) {
        return rolls.ofReturn(i, what);
    }

    public int find(int n, boolean lord) {
        if (!tape.hasFirst(n)) {
            return refuse(NO_NUMBER_OR_NAME);
        }
        Names names = lord ? lords.names : villages.names;
        int number = names.numberOf(tape, 0, n);
        tape.clear();
        return allow(number == NONE ? NOTHING_FOUND : number);
    }

    public int claimed(int village) {
        return villages.has(village) ? claimedHides(village) : NONE;
    }

    public int over() {
        int many = 0;
        for (int v = 0; v < villages.names.count; v++) {
            if (claimedHides(v) > villages.hidesOf(v)) {
                many++;
            }
        }
        return many;
    }

    public int fall(int village) {
        if (!villages.has(village)) {
            return refuse(NONE_SUCH);
        }
        if (claimsIn(village) > FALL_CLAIMS) {
            return refuse(NO_ROOM);
        }
        return allow(fewestFall.choose(rolls, village, villages.hidesOf(village)));
    }

    public int falls(int i) {
        return fewestFall.fallen(i);
    }

    public int silent() {
        int many = 0;
        for (int v = 0; v < villages.names.count; v++) {
            if (claimsIn(v) == 0) {
                many++;
            }
        }
        return many;
    }

    public int silence(int i) {
        int ahead = 0;
        for (int v = 0; v < villages.names.count; v++) {
            if (claimsIn(v) == 0) {
                if (ahead == i) {
                    return v;
                }
                ahead++;
            }
        }
        return NONE;
    }

    public int lay(int lord, int village) {
        if (!lords.has(lord) || !villages.has(village)) {
            return refuse(NONE_SUCH);
        }
        return allow(laying.layBeside(rolls, lord, village));
    }

    public int difference() {
        return laying.difference;
    }

    public int pair(int i, boolean claim) {
        return laying.ofPair(i, claim);
    }

    public int held(int lord, int thing, boolean all) {
        return lords.has(lord) && isThing(thing) ? heldBy(lord, thing, all) : NONE;
    }

    public int under(int lord) {
        if (!lords.has(lord)) {
            return NONE;
        }
        int many = 0;
        for (int other = 0; other < lords.names.count; other++) {
            if (lords.isBelow(other, lord)) {
                many++;
            }
        }
        return many;
    }

    public int top(int lord) {
        return lords.has(lord) ? lords.highestOver(lord) : NONE;
    }

    public int greatest(int thing) {
        if (!isThing(thing)) {
            return NONE;
        }
        int greatest = NOTHING_FOUND;
        int most = NONE;
        for (int lord = 0; lord < lords.names.count; lord++) {
            int held = heldBy(lord, thing, true);
            if (held > most) {
                most = held;
                greatest = lord;
            }
        }
        return greatest;
    }

    public int sum(int hundred, int thing) {
        if (!isHundred(hundred) || !isThing(thing)) {
            return NONE;
        }
        int together = 0;
        for (int i = 0; i < rolls.entryCount; i++) {
            if (rolls.juryOf(i) == hundred) {
                together += rolls.ofEntry(i, thing);
            }
        }
        return together;
    }

    public boolean rates(int hide, int plough, int mill, int share) {
        boolean fit = isWithin(hide, MOST_RATE) && isWithin(plough, MOST_RATE)
                && isWithin(mill, MOST_RATE) && isWithin(share, MOST_SHARE);
        if (fit) {
            rates.become(hide, plough, mill, share);
        }
        trouble = fit ? NOT_REFUSED : NO_NUMBER_OR_NAME;
        return fit;
    }

    public int tax(int lord) {
        return lord == KING || lords.has(lord) ? taxOf(lord, 0) : NONE;
    }

    public int raised(int wanted) {
        if (wanted < 0) {
            return refuse(NO_NUMBER_OR_NAME);
        }
        int pence = leastRaise(wanted);
        return allow(pence > MOST_RAISE ? NOTHING_FOUND : pence);
    }

    public int spared() {
        int many = 0;
        for (int i = 0; i < rolls.entryCount; i++) {
            if (rolls.isClaim(i) && rates.limitOf(rolls, i) < rates.rateOf(rolls, i, 0)) {
                many++;
            }
        }
        return many;
    }

    public int worse(int hundred) {
        if (!isHundred(hundred)) {
            return NONE;
        }
        int many = 0;
        for (int i = 0; i < rolls.entryCount; i++) {
            if (rolls.juryOf(i) == hundred && rolls.ofEntry(i, WORTH) < rolls.ofEntry(i, WAS)) {
                many++;
            }
        }
        return many;
    }

    public int led(int plough) {
        if (plough < 0) {
            return NONE;
        }
        int ahead = 0;
        for (int i = 0; i < rolls.entryCount; i++) {
            if (rolls.isClaim(i)) {
                ahead += rolls.ofEntry(i, PLOUGHS);
                if (plough < ahead) {
                    return rolls.juryOf(i);
                }
            }
        }
        return NONE;
    }

    public int count(int what) {
        switch (what) {
            case 0:
                return hundreds;
            case 1:
                return villages.names.count;
            case 2:
                return lords.names.count;
            case 3:
                return rolls.returnCount;
            case 4:
                return rolls.entryCount;
            case 5:
                return allClaims();
            case 6:
                return tape.length;
            default:
                return NONE;
        }
    }

    public int trouble() {
        return trouble;
    }

    private int refuse(int why) {
        trouble = why;
        return NONE;
    }

    private int allow(int answer) {
        trouble = NOT_REFUSED;
        return answer;
    }

    private int answerNamed(Names names, int why) {
        tape.clear();
        return why == NOT_REFUSED ? allow(names.count - 1) : refuse(why);
    }

    private boolean isHundred(int hundred) {
        return hundred >= 0 && hundred < hundreds;
    }

    private static boolean isThing(int thing) {
        return thing >= 0 && thing < THINGS;
    }

    private static boolean isWithin(int number, int most) {
        return number >= 0 && number <= most;
    }

    /** The text was read whole already: a fault goes ahead of a want of room. */
    private int settle(boolean faultless, int jury, int teller) {
        tape.clear();
        if (!faultless) {
            return refuse(FAULTY);
        }
        int number = rolls.take(reader, jury, teller);
        return number == NONE ? refuse(NO_ROOM) : allow(number);
    }

    private int claimedHides(int village) {
        int hides = 0;
        for (int i = 0; i < rolls.entryCount; i++) {
            if (rolls.isClaimIn(i, village)) {
                hides += rolls.ofEntry(i, HIDES);
            }
        }
        return hides;
    }

    private int claimsIn(int village) {
        int many = 0;
        for (int i = 0; i < rolls.entryCount; i++) {
            if (rolls.isClaimIn(i, village)) {
                many++;
            }
        }
        return many;
    }

    private int allClaims() {
        int many = 0;
        for (int i = 0; i < rolls.entryCount; i++) {
            if (rolls.isClaim(i)) {
                many++;
            }
        }
        return many;
    }

    private int heldBy(int lord, int thing, boolean all) {
        int together = 0;
        for (int i = 0; i < rolls.entryCount; i++) {
            if (rolls.isClaim(i)) {
                int holder = rolls.ofEntry(i, OF_LORD);
                if (holder == lord || (all && lords.isBelow(holder, lord))) {
                    together += rolls.ofEntry(i, thing);
                }
            }
        }
        return together;
    }

    private int taxOf(int lord, int more) {
        int together = 0;
        for (int i = 0; i < rolls.entryCount; i++) {
            if (rolls.isClaim(i) && (lord == KING || rolls.ofEntry(i, OF_LORD) == lord)) {
                together += rates.taxOn(rolls, i, more);
            }
        }
        return together;
    }

    /** One above MOST_RAISE if that doesn't do; halving steps are enough, as no tax shrinks with more pence. */
    private int leastRaise(int wanted) {
        int tooFew = -1;
        for (int step = 512; step > 0; step /= 2) {
            int tried = tooFew + step;
            if (tried <= MOST_RAISE && taxOf(KING, tried) < wanted) {
                tooFew = tried;
            }
        }
        return tooFew + 1;
    }

    /** Bytes that have been fed and not yet read. */
    private static final class Tape {
        private static final int OTHER = 0;
        private static final int BLANK = 1;
        private static final int LETTER = 2;
        private static final int DIGIT = 3;
        private static final int COMMA = 4;
        private static final int SEMICOLON = 5;

        private final byte[] bytes = new byte[TAPE_BYTES];
        private int length = 0;

        private boolean hasRoomFor(int more) {
            return length + more <= TAPE_BYTES;
        }

        private void append(int number) {
            for (int shift = 24; shift >= 0; shift -= 8) {
                if (hasRoomFor(1)) {
                    bytes[length] = (byte) (number >> shift);
                    length++;
                }
            }
        }

        private boolean hasFirst(int n) {
            return n >= 0 && n <= length;
        }

        private void clear() {
            length = 0;
        }

        private int byteAt(int i) {
            return i >= 0 && i < length ? bytes[i] & 255 : NONE;
        }

        private int signAt(int i) {
            int b = byteAt(i);
            if (b >= 'a' && b <= 'z') {
                return LETTER;
            }
            if (b >= '0' && b <= '9') {
                return DIGIT;
            }
            if (b == ' ' || b == '\n') {
                return BLANK;
            }
            if (b == ',') {
                return COMMA;
            }
            return b == ';' ? SEMICOLON : OTHER;
        }
    }

    /** Names by number; the letters of all stand in one row. */
    private static final class Names {
        /** Villages are more than lords, so rows of this length do for either. */
        private final byte[] letters = new byte[VILLAGES * NAME_LETTERS];
        private final int[] lengths = new int[VILLAGES];
        private final int room;
        private int count = 0;

        private Names(int room) {
            this.room = Math.min(room, VILLAGES);
        }

        private int troubleWith(Tape tape, int n) {
            if (!isName(tape, n)) {
                return NO_NUMBER_OR_NAME;
            }
            if (numberOf(tape, 0, n) != NONE) {
                return ALREADY;
            }
            return count < room ? NOT_REFUSED : NO_ROOM;
        }

        private static boolean isName(Tape tape, int n) {
            for (int i = 0; i < n; i++) {
                if (tape.signAt(i) != Tape.LETTER) {
                    return false;
                }
            }
            return n >= 1 && n <= NAME_LETTERS;
        }

        private int numberOf(Tape tape, int from, int to) {
            for (int i = 0; i < count; i++) {
                if (lengths[i] == to - from && isSpelled(i, tape, from)) {
                    return i;
                }
            }
            return NONE;
        }

        private boolean isSpelled(int number, Tape tape, int from) {
            for (int i = 0; i < lengths[number]; i++) {
                if (letters[number * NAME_LETTERS + i] != tape.byteAt(from + i)) {
                    return false;
                }
            }
            return true;
        }

        /** NONE for what troubleWith() would not have let pass. */
        private int write(Tape tape, int n) {
            if (count >= room || n > NAME_LETTERS) {
                return NONE;
            }
            for (int i = 0; i < n; i++) {
                letters[count * NAME_LETTERS + i] = (byte) tape.byteAt(i);
            }
            lengths[count] = n;
            count++;
            return count - 1;
        }
    }

    private static final class Villages {
        private final Names names = new Names(VILLAGES);
        private final int[] hundreds = new int[VILLAGES];
        private final int[] hides = new int[VILLAGES];

        private boolean has(int village) {
            return village >= 0 && village < names.count;
        }

        private void enter(Tape tape, int n, int hundred, int rated) {
            int number = names.write(tape, n);
            if (has(number)) {
                hundreds[number] = hundred;
                hides[number] = rated;
            }
        }

        private int hundredOf(int village) {
            return has(village) ? hundreds[village] : NONE;
        }

        private int hidesOf(int village) {
            return has(village) ? hides[village] : 0;
        }
    }

    private static final class Lords {
        private final Names names = new Names(LORDS);
        private final int[] overlords = new int[LORDS];

        private boolean has(int lord) {
            return lord >= 0 && lord < names.count;
        }

        private void enter(Tape tape, int n, int overlord) {
            putUnder(names.write(tape, n), overlord);
        }

        private void putUnder(int lord, int overlord) {
            if (has(lord)) {
                overlords[lord] = overlord;
            }
        }

        private int overlordOf(int lord) {
            return has(lord) ? overlords[lord] : KING;
        }

        /** No chain is longer than all lords, since none holds of itself. */
        private boolean isBelow(int lord, int overlord) {
            int above = overlordOf(lord);
            for (int i = 0; i < LORDS && above != KING; i++) {
                if (above == overlord) {
                    return true;
                }
                above = overlordOf(above);
            }
            return false;
        }

        private int highestOver(int lord) {
            int highest = lord;
            for (int i = 0; i < LORDS && overlordOf(highest) != KING; i++) {
                highest = overlordOf(highest);
            }
            return highest;
        }
    }

    /** The returns and their entries, in the order in which they came; a row for each thing told. */
    private static final class Rolls {
        private final int[][] entries = new int[ENTRY_ROWS][ENTRIES];
        private final int[][] returns = new int[RETURN_ROWS][RETURNS];
        private int entryCount = 0;
        private int returnCount = 0;

        private int ofEntry(int i, int what) {
            boolean known = i >= 0 && i < entryCount && what >= 0 && what < ENTRY_ROWS;
            return known ? entries[what][i] : NONE;
        }

        private int ofReturn(int i, int what) {
            boolean known = i >= 0 && i < returnCount && what >= 0 && what < RETURN_ROWS;
            return known ? returns[what][i] : NONE;
        }

        private int juryOf(int i) {
            return ofReturn(ofEntry(i, OF_RETURN), JURY);
        }

        private int tellerOf(int i) {
            return ofReturn(ofEntry(i, OF_RETURN), TELLER);
        }

        private boolean isClaim(int i) {
            return juryOf(i) != NONE;
        }

        private boolean isClaimIn(int i, int village) {
            return ofEntry(i, OF_VILLAGE) == village && isClaim(i);
        }

        /** NONE, and nothing is taken, if there is no room for all of it. */
        private int take(Reader text, int jury, int teller) {
            if (returnCount >= RETURNS || entryCount + text.written > ENTRIES) {
                return NONE;
            }
            int number = returnCount;
            returns[JURY][number] = jury;
            returns[TELLER][number] = teller;
            returns[MANY_ENTRIES][number] = text.written;
            returns[FIRST_ENTRY][number] = entryCount;
            returnCount++;
            for (int i = 0; i < text.written; i++) {
                for (int what = 0; what < DRAFT_ROWS; what++) {
                    entries[what][entryCount] = text.draft[what][i];
                }
                entries[OF_RETURN][entryCount] = number;
                entryCount++;
            }
            return number;
        }
    }

    /** Reads a text into a draft, so that a faulty one leaves the rolls as they are. */
    private static final class Reader {
        private static final int END = 6;
        private static final int FAULTLESS = 0;
        private static final int FORM = 1;
        private static final int UNKNOWN = 2;
        private static final int TWICE = 3;
        private static final int MANY = 4;

        private final Tape tape;
        private final Villages villages;
        private final Lords lords;
        private final int[][] draft = new int[DRAFT_ROWS][ENTRIES_OF_TEXT];
        private int written = 0;
        private int fault = FAULTLESS;
        private int faultPlace = NONE;
        /** The token in hand stands from here up to, and without, the byte at behind. */
        private int from = 0;
        private int behind = 0;
        private int kind = END;
        private int end = 0;

        private Reader(Tape tape, Villages villages, Lords lords) {
            this.tape = tape;
            this.villages = villages;
            this.lords = lords;
        }

        /** Of villages in the jury's hundred alone, or of all if the jury is NONE. */
        private boolean readText(int n, int jury) {
            written = 0;
            fault = FAULTLESS;
            behind = 0;
            end = n;
            step();
            for (int i = 0; i <= ENTRIES_OF_TEXT; i++) {
                if (!readEntry(jury)) {
                    return false;
                }
                if (kind == END) {
                    return true;
                }
                if (kind != Tape.SEMICOLON) {
                    return blame(FORM);
                }
                step();
            }
            return blame(MANY);
        }

        private boolean readEntry(int jury) {
            if (!says("in")) {
                return blame(FORM);
            }
            if (written >= ENTRIES_OF_TEXT) {
                return blame(MANY);
            }
            step();
            if (kind != Tape.LETTER) {
                return blame(FORM);
            }
            int village = villages.names.numberOf(tape, from, behind);
            if (village == NONE || (jury != NONE && villages.hundredOf(village) != jury)) {
                return blame(UNKNOWN);
            }
            step();
            if (kind != Tape.LETTER) {
                return blame(FORM);
            }
            int lord = lords.names.numberOf(tape, from, behind);
            if (lord == NONE) {
                return blame(UNKNOWN);
            }
            step();
            if (!says("has")) {
                return blame(FORM);
            }
            step();
            draftEntry(village, lord);
            return readItems();
        }

        private void draftEntry(int village, int lord) {
            for (int thing = 0; thing < THINGS; thing++) {
                draft[thing][written] = 0;
            }
            draft[OF_VILLAGE][written] = village;
            draft[OF_LORD][written] = lord;
        }

        private boolean readItems() {
            int had = 0;
            for (int i = 0; i <= THINGS; i++) {
                if (kind != Tape.DIGIT) {
                    return blame(FORM);
                }
                int number = numberInHand();
                step();
                int thing = thingInHand();
                if (thing == NONE) {
                    return blame(FORM);
                }
                if ((had & (1 << thing)) != 0) {
                    return blame(TWICE);
                }
                had |= 1 << thing;
                draft[thing][written] = number;
                step();
                if (kind != Tape.COMMA) {
                    written++;
                    return true;
                }
                step();
            }
            return blame(TWICE);
        }

        private boolean blame(int why) {
            fault = why;
            faultPlace = from;
            return false;
        }

        /** Takes the next token in hand; one that is too long is none, from its first byte on. */
        private void step() {
            from = behind;
            while (from < end && tape.signAt(from) == Tape.BLANK) {
                from++;
            }
            kind = from < end ? tape.signAt(from) : END;
            behind = Math.min(from + 1, end);
            if (kind == Tape.LETTER || kind == Tape.DIGIT) {
                while (behind < end && tape.signAt(behind) == kind) {
                    behind++;
                }
                int longest = kind == Tape.LETTER ? NAME_LETTERS : NUMBER_DIGITS;
                if (behind - from > longest) {
                    kind = Tape.OTHER;
                }
            }
        }

        private boolean says(String word) {
            if (kind != Tape.LETTER || behind - from != word.length()) {
                return false;
            }
            for (int i = 0; i < word.length(); i++) {
                if (tape.byteAt(from + i) != word.charAt(i)) {
                    return false;
                }
            }
            return true;
        }

        private int numberInHand() {
            int number = 0;
            for (int i = from; i < behind; i++) {
                number = number * 10 + tape.byteAt(i) - '0';
            }
            return number;
        }

        private int thingInHand() {
            if (says("hides")) {
                return HIDES;
            }
            if (says("ploughs")) {
                return PLOUGHS;
            }
            if (says("mills")) {
                return MILLS;
            }
            if (says("worth")) {
                return WORTH;
            }
            return says("was") ? WAS : NONE;
        }
    }

    /** The fewest claims of a village that must fall, as they were chosen last. */
    private static final class FewestFall {
        /** More than the hides of all claims that can be looked at together. */
        private static final int MORE_THAN_ALL = 1000000;

        private final int[] claims = new int[FALL_CLAIMS];
        private final int[] hides = new int[FALL_CLAIMS];
        private final int[] chosen = new int[FALL_CLAIMS];
        private int claimCount = 0;
        private int chosenCount = 0;

        private int fallen(int i) {
            return i >= 0 && i < chosenCount ? chosen[i] : NONE;
        }

        /** Only for a village with no more than FALL_CLAIMS claims. */
        private int choose(Rolls rolls, int village, int rated) {
            int excess = gather(rolls, village) - rated;
            keep(excess > 0 ? bestSet(fewestFor(excess), excess) : 0);
            return chosenCount;
        }

        private int gather(Rolls rolls, int village) {
            int together = 0;
            claimCount = 0;
            for (int i = 0; i < rolls.entryCount && claimCount < FALL_CLAIMS; i++) {
                if (rolls.isClaimIn(i, village)) {
                    claims[claimCount] = i;
                    hides[claimCount] = rolls.ofEntry(i, HIDES);
                    together += hides[claimCount];
                    claimCount++;
                }
            }
            return together;
        }

        /** The greatest claims do it with the fewest. */
        private int fewestFor(int excess) {
            int taken = 0;
            int gone = 0;
            int many = 0;
            while (many < claimCount && gone < excess) {
                int greatest = greatestWithout(taken);
                taken |= bitOf(greatest);
                gone += hides[greatest];
                many++;
            }
            return many;
        }

        private int greatestWithout(int taken) {
            int greatest = 0;
            int most = NONE;
            for (int k = 0; k < claimCount; k++) {
                if ((taken & bitOf(k)) == 0 && hides[k] > most) {
                    most = hides[k];
                    greatest = k;
                }
            }
            return greatest;
        }

        /** Earlier claims have higher bits, so that of sets of one size the first by numbers is met first. */
        private int bestSet(int many, int excess) {
            int best = 0;
            int least = MORE_THAN_ALL;
            for (int set = (1 << claimCount) - 1; set > 0; set--) {
                if (Integer.bitCount(set) == many) {
                    int gone = hidesOfSet(set);
                    if (gone >= excess && gone < least) {
                        least = gone;
                        best = set;
                    }
                }
            }
            return best;
        }

        private int hidesOfSet(int set) {
            int together = 0;
            for (int k = 0; k < claimCount; k++) {
                if ((set & bitOf(k)) != 0) {
                    together += hides[k];
                }
            }
            return together;
        }

        private void keep(int set) {
            chosenCount = 0;
            for (int k = 0; k < claimCount; k++) {
                if ((set & bitOf(k)) != 0) {
                    chosen[chosenCount] = claims[k];
                    chosenCount++;
                }
            }
        }

        private int bitOf(int k) {
            return 1 << (claimCount - 1 - k);
        }
    }

    /** A lord's own entries beside the claims that are its, as they were laid last. */
    private static final class Laying {
        /** More than all differences together, so that a pair more always weighs more. */
        private static final int UNPAIRED = 1000000;

        private final int[] own = new int[LAID_ENTRIES];
        private final int[] claims = new int[LAID_ENTRIES];
        private final int[][] apart = new int[LAID_ENTRIES][LAID_ENTRIES];
        /** By the first entry that isn't laid yet, and the set of claims that are taken: the least cost of the rest. */
        private final int[][] least = new int[LAID_ENTRIES + 1][1 << LAID_ENTRIES];
        private final int[] pairedOwn = new int[LAID_ENTRIES];
        private final int[] pairedClaims = new int[LAID_ENTRIES];
        private int ownCount = 0;
        private int claimCount = 0;
        private int pairs = 0;
        private int difference = NONE;

        private int ofPair(int i, boolean claim) {
            if (i < 0 || i >= pairs) {
                return NONE;
            }
            return claim ? pairedClaims[i] : pairedOwn[i];
        }

        private int layBeside(Rolls rolls, int lord, int village) {
            gather(rolls, lord, village);
            measure(rolls);
            weigh();
            keepBest();
            return pairs;
        }

        private void gather(Rolls rolls, int lord, int village) {
            ownCount = 0;
            claimCount = 0;
            for (int i = 0; i < rolls.entryCount; i++) {
                if (rolls.ofEntry(i, OF_LORD) == lord && rolls.ofEntry(i, OF_VILLAGE) == village) {
                    if (rolls.isClaim(i)) {
                        if (claimCount < LAID_ENTRIES) {
                            claims[claimCount] = i;
                            claimCount++;
                        }
                    } else if (rolls.tellerOf(i) == lord && ownCount < LAID_ENTRIES) {
                        own[ownCount] = i;
                        ownCount++;
                    }
                }
            }
        }

        private void measure(Rolls rolls) {
            for (int i = 0; i < ownCount; i++) {
                for (int c = 0; c < claimCount; c++) {
                    int together = 0;
                    for (int thing = 0; thing < THINGS; thing++) {
                        together += Math.abs(rolls.ofEntry(own[i], thing) - rolls.ofEntry(claims[c], thing));
                    }
                    apart[i][c] = together;
                }
            }
        }

        private void weigh() {
            for (int taken = 0; taken < 1 << claimCount; taken++) {
                least[ownCount][taken] = 0;
            }
            for (int i = ownCount - 1; i >= 0; i--) {
                for (int taken = 0; taken < 1 << claimCount; taken++) {
                    least[i][taken] = leastFrom(i, taken);
                }
            }
        }

        private int leastFrom(int i, int taken) {
            int cost = UNPAIRED + least[i + 1][taken];
            for (int c = 0; c < claimCount; c++) {
                if ((taken & (1 << c)) == 0) {
                    cost = Math.min(cost, costOf(i, c, taken));
                }
            }
            return cost;
        }

        private int costOf(int i, int c, int taken) {
            return apart[i][c] + least[i + 1][taken | (1 << c)];
        }

        private void keepBest() {
            int taken = 0;
            pairs = 0;
            difference = 0;
            for (int i = 0; i < ownCount; i++) {
                int c = firstBest(i, taken);
                if (c != NONE) {
                    pairedOwn[pairs] = own[i];
                    pairedClaims[pairs] = claims[c];
                    pairs++;
                    difference += apart[i][c];
                    taken |= 1 << c;
                }
            }
        }

        private int firstBest(int i, int taken) {
            for (int c = 0; c < claimCount; c++) {
                if ((taken & (1 << c)) == 0 && costOf(i, c, taken) == least[i][taken]) {
                    return c;
                }
            }
            return NONE;
        }
    }

    private static final class Rates {
        private int hide = 0;
        private int plough = 0;
        private int mill = 0;
        private int share = MOST_SHARE;

        private void become(int newHide, int newPlough, int newMill, int newShare) {
            hide = newHide;
            plough = newPlough;
            mill = newMill;
            share = newShare;
        }

        private int rateOf(Rolls rolls, int claim, int more) {
            return (hide + more) * rolls.ofEntry(claim, HIDES)
                    + plough * rolls.ofEntry(claim, PLOUGHS)
                    + mill * rolls.ofEntry(claim, MILLS);
        }

        private int limitOf(Rolls rolls, int claim) {
            return share * rolls.ofEntry(claim, WORTH) / 100;
        }

        private int taxOn(Rolls rolls, int claim, int more) {
            return Math.min(rateOf(rolls, claim, more), limitOf(rolls, claim));
        }
    }
}
