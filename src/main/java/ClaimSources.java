import java.util.Arrays;
import java.util.NoSuchElementException;

/**
 * Claims that rest on sources and on one another, opinions of persons by the day, what is agreed
 * by rules, who dissents, which claims a withdrawn source would open; quotes by their place,
 * citations by forms.
 *
 * <p>Every array is made once, in a constructor: a call makes no object but the exception that it
 * throws. The public methods look at every argument; the classes inside rely on that.
 */
public final class ClaimSources {
    public static final int NONE = -1;
    public static final int TIE = -2;

    private static final int LAST_DAY = 100000;
    private static final int FIRST_SIGN = 1;
    private static final int LAST_SIGN = 127;
    private static final int TEXT_LIMIT = 60;
    private static final int SOURCE_LIMIT = 24;
    private static final int LAST_KIND = 25;
    private static final int CLAIM_LIMIT = 24;
    private static final int PERSON_LIMIT = 32;
    private static final int OPINION_LIMIT = 300;
    private static final int VALUE_LIMIT = 100;
    private static final int LAST_RANK = 9;
    private static final int FORM_LIMIT = 4;

    private static final int RULE_MOST = 0;
    private static final int RULE_RANK = 1;
    private static final int RULE_ALL = 2;

    // The texts of the sources, the forms and the pad are rows of one table, in this order.
    private static final int FIRST_FORM_ROW = SOURCE_LIMIT;
    private static final int PAD_ROW = FIRST_FORM_ROW + FORM_LIMIT;
    private static final int TEXT_ROWS = PAD_ROW + 1;

    private static final int NUMBER_MARK = 35;
    private static final int KIND_MARK = 36;
    private static final int DAY_MARK = 64;
    private static final int DIGIT_ZERO = 48;
    private static final int FIRST_KIND_SIGN = 97;

    private final Texts texts;
    private final Sources sources;
    private final Claims claims;
    private final Opinions opinions;

    public ClaimSources() {
        texts = new Texts();
        sources = new Sources();
        claims = new Claims();
        opinions = new Opinions();
    }

    public int unit(int sign) throws IllegalArgumentException, IllegalStateException {
        if (!isWithin(sign, FIRST_SIGN, LAST_SIGN)) {
            throw new IllegalArgumentException("no sign");
        }
        if (texts.lengthOf(PAD_ROW) >= TEXT_LIMIT) {
            throw new IllegalStateException("the pad is full");
        }
        return texts.append(PAD_ROW, sign);
    }

    public int clear() {
        return texts.makeEmpty(PAD_ROW);
    }

    public int source(int kind, int day) throws IllegalArgumentException, IllegalStateException {
        if (!isWithin(kind, 0, LAST_KIND)) {
            throw new IllegalArgumentException("no kind");
        }
        requireDay(day);
        if (sources.made() >= SOURCE_LIMIT) {
            throw new IllegalStateException("no more sources");
        }
        int number = sources.add(kind, day);
        texts.move(PAD_ROW, number);
        return number;
    }

    public int claim() throws IllegalStateException {
        if (claims.made() >= CLAIM_LIMIT) {
            throw new IllegalStateException("no more claims");
        }
        return claims.add();
    }

    public boolean rests(int claim, int source, boolean on) throws NoSuchElementException {
        requireClaim(claim);
        requireSource(source);
        return claims.setSource(claim, source, on);
    }

    public int restsOn(int claim, int other) throws NoSuchElementException {
        requireClaim(claim);
        requireClaim(other);
        if (claims.isOn(claim, other)) {
            return 0;
        }
        if (claims.tellRing(claim, other)) {
            return NONE;
        }
        claims.setOther(claim, other, true);
        return 1;
    }

    public int ring(int k) throws NoSuchElementException {
        requirePlace(k);
        return claims.ringPlace(k);
    }

    public boolean lift(int claim, int other) throws NoSuchElementException {
        requireClaim(claim);
        requireClaim(other);
        return claims.setOther(claim, other, false);
    }

    public int withdraw(int source, int day)
            throws NoSuchElementException, IllegalArgumentException {
        requireSource(source);
        if (day != NONE) {
            requireDay(day);
        }
        return sources.setWithdrawal(source, day);
    }

    public int opinion(int person, int claim, int v, int day, int rank)
            throws NoSuchElementException, IllegalArgumentException, IllegalStateException {
        requirePerson(person);
        requireClaim(claim);
        if (!isWithin(v, 0, VALUE_LIMIT - 1)) {
            throw new IllegalArgumentException("no value");
        }
        requireDay(day);
        if (!isWithin(rank, 0, LAST_RANK)) {
            throw new IllegalArgumentException("no rank");
        }
        int index = opinions.find(person, claim, day);
        if (index == NONE) {
            if (opinions.made() >= OPINION_LIMIT) {
                throw new IllegalStateException("no more opinions");
            }
            index = opinions.add(person, claim, day);
        }
        opinions.say(index, v, rank);
        return opinions.numberOf(claim);
    }

    public int rule(int claim, int kind) throws NoSuchElementException, IllegalArgumentException {
        requireClaim(claim);
        if (!isWithin(kind, RULE_MOST, RULE_ALL)) {
            throw new IllegalArgumentException("no rule");
        }
        return claims.setRule(claim, kind);
    }

    public int agreed(int claim, int day) throws NoSuchElementException, IllegalArgumentException {
        requireClaim(claim);
        requireDay(day);
        return agreedValue(claim, day);
    }

    public int dissent(int claim, int day, int k)
            throws NoSuchElementException, IllegalArgumentException {
        requireClaim(claim);
        requirePlace(k);
        requireDay(day);
        return opinions.dissenter(agreedValue(claim, day), k);
    }

    public boolean held(int claim, int day)
            throws NoSuchElementException, IllegalArgumentException {
        requireClaim(claim);
        requireDay(day);
        return isHeld(claim, day);
    }

    public int opened(int source, int day, int k)
            throws NoSuchElementException, IllegalArgumentException {
        requireSource(source);
        requirePlace(k);
        requireDay(day);
        int standing = sources.standingOn(day);
        int heldNow = claims.heldBy(standing);
        int heldWithout = claims.heldBy(without(standing, source));
        return memberAt(heldNow & ~heldWithout, k);
    }

    public int quote(int source, int at) throws NoSuchElementException {
        requireSource(source);
        if (!isWithin(at, 0, texts.lengthOf(source))) {
            throw new NoSuchElementException("no such place of the text");
        }
        return texts.firstMismatch(PAD_ROW, source, at);
    }

    public int form(int k) throws NoSuchElementException {
        requireForm(k);
        return texts.move(PAD_ROW, FIRST_FORM_ROW + k);
    }

    public int cite(int source, int form, int i) throws NoSuchElementException {
        requireSource(source);
        requireForm(form);
        if (i == -1) {
            return citationLength(source, form);
        }
        requirePlace(i);
        int sign = citationSign(source, form, i);
        if (sign == NONE) {
            throw new NoSuchElementException("no such sign of the citation");
        }
        return sign;
    }

    public int count(int what) throws IllegalArgumentException {
        switch (what) {
            case 0:
                return texts.lengthOf(PAD_ROW);
            case 1:
                return sources.made();
            case 2:
                return claims.made();
            case 3:
                return opinions.made();
            case 4:
                return claims.pairs();
            default:
                throw new IllegalArgumentException("nothing that is counted");
        }
    }

    private void requireSource(int source) {
        if (!isWithin(source, 0, sources.made() - 1)) {
            throw new NoSuchElementException("no such source");
        }
    }

    private void requireClaim(int claim) {
        if (!isWithin(claim, 0, claims.made() - 1)) {
            throw new NoSuchElementException("no such claim");
        }
    }

    private static void requirePerson(int person) {
        if (!isWithin(person, 0, PERSON_LIMIT - 1)) {
            throw new NoSuchElementException("no such person");
        }
    }

    private static void requireForm(int form) {
        if (!isWithin(form, 0, FORM_LIMIT - 1)) {
            throw new NoSuchElementException("no such form");
        }
    }

    private static void requirePlace(int place) {
        if (place < 0) {
            throw new NoSuchElementException("no such place");
        }
    }

    private static void requireDay(int day) {
        if (!isWithin(day, 0, LAST_DAY)) {
            throw new IllegalArgumentException("no day");
        }
    }

    private boolean isHeld(int claim, int day) {
        return contains(claims.heldBy(sources.standingOn(day)), claim);
    }

    /** Leaves what is known of the claim on the day in the opinions, where dissenter looks it up. */
    private int agreedValue(int claim, int day) {
        opinions.learn(claim, day);
        return isHeld(claim, day) ? opinions.valueBy(claims.ruleOf(claim)) : NONE;
    }

    private int citationLength(int source, int form) {
        int row = FIRST_FORM_ROW + form;
        int length = 0;
        for (int place = 0; place < texts.lengthOf(row); place++) {
            length += pieceWidth(texts.signAt(row, place), source);
        }
        return length;
    }

    private int citationSign(int source, int form, int i) {
        int row = FIRST_FORM_ROW + form;
        int left = i;
        for (int place = 0; place < texts.lengthOf(row); place++) {
            int mark = texts.signAt(row, place);
            int width = pieceWidth(mark, source);
            if (left < width) {
                return pieceSign(mark, source, width - 1 - left);
            }
            left -= width;
        }
        return NONE;
    }

    private int pieceWidth(int mark, int source) {
        switch (mark) {
            case NUMBER_MARK:
                return digitsOf(source);
            case DAY_MARK:
                return digitsOf(sources.dayOf(source));
            default:
                return 1;
        }
    }

    private int pieceSign(int mark, int source, int placeFromEnd) {
        switch (mark) {
            case NUMBER_MARK:
                return digitSign(source, placeFromEnd);
            case DAY_MARK:
                return digitSign(sources.dayOf(source), placeFromEnd);
            case KIND_MARK:
                return FIRST_KIND_SIGN + sources.kindOf(source);
            default:
                return mark;
        }
    }

    private static int digitsOf(int number) {
        int digits = 1;
        for (int rest = number; rest >= 10; rest /= 10) {
            digits++;
        }
        return digits;
    }

    private static int digitSign(int number, int placeFromEnd) {
        int rest = number;
        for (int place = 0; place < placeFromEnd; place++) {
            rest /= 10;
        }
        return DIGIT_ZERO + rest % 10;
    }

    private static boolean isWithin(int number, int lowest, int greatest) {
        return number >= lowest && number <= greatest;
    }

    // Sets of sources and of claims are the bits of an int: there are at most 24 of each.

    private static boolean contains(int set, int member) {
        return (set & (1 << member)) != 0;
    }

    private static int with(int set, int member) {
        return set | (1 << member);
    }

    private static int without(int set, int member) {
        return set & ~(1 << member);
    }

    /** The k-th member of a set of claims, by numbers; NONE behind the last. */
    private static int memberAt(int set, int k) {
        int left = k;
        for (int member = 0; member < CLAIM_LIMIT; member++) {
            if (contains(set, member)) {
                if (left == 0) {
                    return member;
                }
                left--;
            }
        }
        return NONE;
    }

    /** Rows of at most 60 signs. */
    private static final class Texts {
        private final int[] signs = new int[TEXT_ROWS * TEXT_LIMIT];
        private final int[] lengths = new int[TEXT_ROWS];

        int lengthOf(int row) {
            return lengths[row];
        }

        int signAt(int row, int place) {
            return signs[row * TEXT_LIMIT + place];
        }

        int append(int row, int sign) {
            signs[row * TEXT_LIMIT + lengths[row]] = sign;
            lengths[row]++;
            return lengths[row];
        }

        int makeEmpty(int row) {
            int former = lengths[row];
            lengths[row] = 0;
            return former;
        }

        int move(int from, int to) {
            int length = lengths[from];
            System.arraycopy(signs, from * TEXT_LIMIT, signs, to * TEXT_LIMIT, length);
            lengths[to] = length;
            lengths[from] = 0;
            return length;
        }

        /** 0 if the part stands in the row from there on, else its first place that does not + 1. */
        int firstMismatch(int part, int row, int at) {
            for (int place = 0; place < lengths[part]; place++) {
                boolean behindEnd = at + place >= lengths[row];
                if (behindEnd || signAt(row, at + place) != signAt(part, place)) {
                    return place + 1;
                }
            }
            return 0;
        }
    }

    /** The sources without their texts. */
    private static final class Sources {
        private final int[] kinds = new int[SOURCE_LIMIT];
        private final int[] days = new int[SOURCE_LIMIT];
        private final int[] withdrawals = new int[SOURCE_LIMIT];
        private int made;

        int made() {
            return made;
        }

        int add(int kind, int day) {
            int number = made;
            kinds[number] = kind;
            days[number] = day;
            withdrawals[number] = NONE;
            made++;
            return number;
        }

        int kindOf(int source) {
            return kinds[source];
        }

        int dayOf(int source) {
            return days[source];
        }

        int setWithdrawal(int source, int day) {
            int former = withdrawals[source];
            withdrawals[source] = day;
            return former;
        }

        /** The set of the sources on which a claim can be held on a day. */
        int standingOn(int day) {
            int standing = 0;
            for (int source = 0; source < made; source++) {
                if (days[source] <= day && !isWithdrawn(source, day)) {
                    standing = with(standing, source);
                }
            }
            return standing;
        }

        private boolean isWithdrawn(int source, int day) {
            return withdrawals[source] != NONE && withdrawals[source] <= day;
        }
    }

    /** The claims, what they rest on, their rules, and the ring that was told latest. */
    private static final class Claims {
        private final int[] sourceSets = new int[CLAIM_LIMIT];
        private final int[] otherSets = new int[CLAIM_LIMIT];
        private final int[] rules = new int[CLAIM_LIMIT];
        private final int[] ringClaims = new int[CLAIM_LIMIT];
        private final int[] steps = new int[CLAIM_LIMIT];
        private int made;
        private int ringLength;

        int made() {
            return made;
        }

        int add() {
            int number = made;
            made++;
            return number;
        }

        int ruleOf(int claim) {
            return rules[claim];
        }

        int setRule(int claim, int kind) {
            int former = rules[claim];
            rules[claim] = kind;
            return former;
        }

        /** Whether that was not so before. */
        boolean setSource(int claim, int source, boolean on) {
            int former = sourceSets[claim];
            sourceSets[claim] = on ? with(former, source) : without(former, source);
            return sourceSets[claim] != former;
        }

        boolean isOn(int claim, int other) {
            return contains(otherSets[claim], other);
        }

        /** Whether that was not so before. */
        boolean setOther(int claim, int other, boolean on) {
            int former = otherSets[claim];
            otherSets[claim] = on ? with(former, other) : without(former, other);
            return otherSets[claim] != former;
        }

        int pairs() {
            int pairs = 0;
            for (int claim = 0; claim < made; claim++) {
                pairs += Integer.bitCount(otherSets[claim]);
            }
            return pairs;
        }

        /** The set of the claims that are held if these are the sources that stand. */
        int heldBy(int standing) {
            int heldSet = 0;
            // Each round but the last finds a claim more, so one round for each claim is enough.
            for (int round = 0; round < made; round++) {
                int former = heldSet;
                for (int claim = 0; claim < made; claim++) {
                    boolean onSource = (sourceSets[claim] & standing) != 0;
                    if (onSource || (otherSets[claim] & heldSet) != 0) {
                        heldSet = with(heldSet, claim);
                    }
                }
                if (heldSet == former) {
                    break;
                }
            }
            return heldSet;
        }

        int ringPlace(int k) {
            return k >= 0 && k < ringLength ? ringClaims[k] : NONE;
        }

        /**
         * Whether there would be a ring if the claim rested on the other one; it is told then.
         * There is none yet, so each one would go from the claim to the other one first.
         */
        boolean tellRing(int claim, int other) {
            measureStepsTo(claim);
            if (steps[other] == NONE) {
                return false;
            }
            ringClaims[0] = claim;
            ringLength = 1;
            int next = other;
            for (int left = steps[other]; left > 0 && next != NONE; left--) {
                ringClaims[ringLength] = next;
                ringLength++;
                next = lowestBelow(next, left - 1);
            }
            return true;
        }

        /** How many steps from claim to claim lead from each one to the goal at least, or NONE. */
        private void measureStepsTo(int goal) {
            Arrays.fill(steps, NONE);
            steps[goal] = 0;
            int reached = with(0, goal);
            for (int step = 1; step < CLAIM_LIMIT && reached != 0; step++) {
                reached = markThoseAbove(reached, step);
            }
        }

        /** The set of the claims that had no steps yet and rest on one of these. */
        private int markThoseAbove(int reached, int step) {
            int marked = 0;
            for (int claim = 0; claim < made; claim++) {
                if (steps[claim] == NONE && (otherSets[claim] & reached) != 0) {
                    steps[claim] = step;
                    marked = with(marked, claim);
                }
            }
            return marked;
        }

        /** The lowest of those on which the claim rests that are so many steps from the goal. */
        private int lowestBelow(int claim, int stepsLeft) {
            for (int other = 0; other < made; other++) {
                if (isOn(claim, other) && steps[other] == stepsLeft) {
                    return other;
                }
            }
            return NONE;
        }
    }

    /** The opinions of all claims, and what is known of the claim that was looked at latest. */
    private static final class Opinions {
        private final int[] persons = new int[OPINION_LIMIT];
        private final int[] claimNumbers = new int[OPINION_LIMIT];
        private final int[] days = new int[OPINION_LIMIT];
        private final int[] values = new int[OPINION_LIMIT];
        private final int[] ranks = new int[OPINION_LIMIT];
        private final int[] known = new int[PERSON_LIMIT];
        private final int[] tally = new int[VALUE_LIMIT];
        private int made;

        int made() {
            return made;
        }

        int find(int person, int claim, int day) {
            for (int index = 0; index < made; index++) {
                if (persons[index] == person && claimNumbers[index] == claim && days[index] == day) {
                    return index;
                }
            }
            return NONE;
        }

        int add(int person, int claim, int day) {
            int index = made;
            persons[index] = person;
            claimNumbers[index] = claim;
            days[index] = day;
            made++;
            return index;
        }

        void say(int index, int value, int rank) {
            values[index] = value;
            ranks[index] = rank;
        }

        int numberOf(int claim) {
            int number = 0;
            for (int index = 0; index < made; index++) {
                if (claimNumbers[index] == claim) {
                    number++;
                }
            }
            return number;
        }

        /** Finds each person's known opinion of a claim on a day, for valueBy and dissenter. */
        void learn(int claim, int day) {
            Arrays.fill(known, NONE);
            for (int index = 0; index < made; index++) {
                if (claimNumbers[index] == claim && days[index] <= day) {
                    int former = known[persons[index]];
                    if (former == NONE || days[former] < days[index]) {
                        known[persons[index]] = index;
                    }
                }
            }
        }

        /** What is agreed by a rule among the known opinions; NONE if there are none. */
        int valueBy(int rule) {
            switch (rule) {
                case RULE_RANK:
                    return valueOfGreatestRank();
                case RULE_ALL:
                    return commonValue(NONE, NONE);
                default:
                    return mostFrequentValue();
            }
        }

        /** The k-th person, by numbers, whose known opinion is not this value; NONE. */
        int dissenter(int value, int k) {
            int left = k;
            for (int person = 0; person < PERSON_LIMIT; person++) {
                int index = known[person];
                if (index != NONE && values[index] != value) {
                    if (left == 0) {
                        return person;
                    }
                    left--;
                }
            }
            return NONE;
        }

        private int mostFrequentValue() {
            Arrays.fill(tally, 0);
            for (int person = 0; person < PERSON_LIMIT; person++) {
                int index = known[person];
                if (index != NONE) {
                    tally[values[index]]++;
                }
            }
            int most = 0;
            int found = NONE;
            for (int value = 0; value < VALUE_LIMIT; value++) {
                if (tally[value] > most) {
                    most = tally[value];
                    found = value;
                } else if (tally[value] == most && most > 0) {
                    found = TIE;
                }
            }
            return found;
        }

        private int valueOfGreatestRank() {
            int rank = greatestRank();
            return commonValue(rank, greatestDayOf(rank));
        }

        private int greatestRank() {
            int greatest = NONE;
            for (int person = 0; person < PERSON_LIMIT; person++) {
                int index = known[person];
                if (index != NONE) {
                    greatest = Math.max(greatest, ranks[index]);
                }
            }
            return greatest;
        }

        private int greatestDayOf(int rank) {
            int greatest = NONE;
            for (int person = 0; person < PERSON_LIMIT; person++) {
                int index = known[person];
                if (index != NONE && ranks[index] == rank) {
                    greatest = Math.max(greatest, days[index]);
                }
            }
            return greatest;
        }

        /** The one value of the known opinions of at least this rank and day, or TIE, or NONE. */
        private int commonValue(int rank, int day) {
            int found = NONE;
            for (int person = 0; person < PERSON_LIMIT; person++) {
                int index = known[person];
                if (index != NONE && ranks[index] >= rank && days[index] >= day) {
                    if (found == NONE) {
                        found = values[index];
                    } else if (found != values[index]) {
                        return TIE;
                    }
                }
            }
            return found;
        }
    }
}
