/**
 * Ideals of single terms in two letters, taken to fractions of powers.
 *
 * All rows are made by the constructor and used again, so that no call makes an object.
 */
public final class TermIdeals {
    public static final int NONE = -1, BAD = -2, STATE = -3, FULL = -4;
    public static final long NO = Long.MIN_VALUE;

    private static final int NOTHING = -11, CAST = -12, PLACE = -13, SIZE = -14;

    /** What the document writes as "-5: none": an answer, no refusal. */
    private static final int LACKING = -5;

    private static final int TOP_POWER = 9;
    private static final int MOST_GENERATORS = 6;
    private static final int TOP_FRACTION_PART = 99;
    private static final int ALL_TERMS = 100;
    private static final int TOP_PLACE = 60;
    private static final int FIRST_POWER_CODE = 10, LAST_POWER_CODE = 16;
    private static final int TOP_MET = 5;
    private static final int TAPES = 6;

    private final Told now;
    private final Told image;
    private boolean imageTaken;
    private final Deeds deeds;
    private final Text text;
    private final Tape[] tapes;

    /** Room for an IDEAL as it would be, so that asking leaves the told ones alone. */
    private final Ideal trial;
    private final Hull hull;
    private final JumpRow jumpRow;
    private final Heights left, right;

    public TermIdeals() {
        now = new Told();
        image = new Told();
        imageTaken = false;
        deeds = new Deeds();
        text = new Text();
        tapes = new Tape[TAPES];
        for (int i = 0; i < TAPES; i++) {
            tapes[i] = new Tape();
        }
        trial = new Ideal();
        hull = new Hull();
        jumpRow = new JumpRow();
        left = new Heights();
        right = new Heights();
    }

    // ---- generators

    public int generate(int ideal, int a, int b) {
        if (noIdeal(ideal)) {
            return NONE;
        }
        if (badTerm(a, b)) {
            return BAD;
        }
        Ideal to = now.ideal(ideal);
        if (to.find(a, b) >= 0) {
            return STATE;
        }
        if (to.size() >= MOST_GENERATORS) {
            return FULL;
        }
        deeds.keep(ideal, to);
        to.add(a, b);
        return to.size();
    }

    public int drop(int ideal, int k) {
        if (noGenerator(ideal, k)) {
            return NONE;
        }
        Ideal from = now.ideal(ideal);
        deeds.keep(ideal, from);
        from.remove(k);
        return from.size();
    }

    public int clear(int ideal) {
        if (noIdeal(ideal)) {
            return NONE;
        }
        Ideal from = now.ideal(ideal);
        int had = from.size();
        if (had == 0) {
            return STATE;
        }
        deeds.keep(ideal, from);
        from.empty();
        return had;
    }

    public int merge(int ideal) {
        if (noIdeal(ideal)) {
            return NONE;
        }
        Ideal to = now.ideal(ideal);
        Ideal other = now.ideal(1 - ideal);
        if (to.size() + other.countUnknownTo(to) > MOST_GENERATORS) {
            return FULL;
        }
        deeds.keep(ideal, to);
        for (int k = 0; k < other.size(); k++) {
            to.addIfNew(other.powerA(k), other.powerB(k));
        }
        return to.size();
    }

    public int close(int ideal) {
        if (noIdeal(ideal)) {
            return NONE;
        }
        Ideal to = now.ideal(ideal);
        if (to.size() == 0) {
            return STATE;
        }
        hull.wrap(to);
        if (hull.putCorners(trial) > MOST_GENERATORS) {
            return FULL;
        }
        deeds.keep(ideal, to);
        to.copy(trial);
        return to.size();
    }

    public int back() {
        if (deeds.size() == 0) {
            return STATE;
        }
        deeds.takeBack(now);
        return deeds.size();
    }

    public int feed(int sign) {
        if (sign < 0 || sign > 127) {
            return BAD;
        }
        if (text.isFull()) {
            return FULL;
        }
        text.add(sign);
        return text.size();
    }

    public int read() {
        int fault = text.faultPlace();
        int answer = fault >= 0 ? -10 - fault : doClauses();
        text.empty();
        return answer;
    }

    /** How many were done; THE TEXT must be without a FAULT. */
    private int doClauses() {
        int done = 0;
        int at = 0;
        for (int clause = 0; clause < Text.MOST_CLAUSES && at < text.size(); clause++) {
            if (doClause(at) >= 0) {
                done++;
            }
            at += Text.clauseLength(text.signAt(at)) + 1;
        }
        return done;
    }

    private int doClause(int at) {
        int ideal = text.digitAt(at + 1);
        switch (text.signAt(at)) {
            case '+':
                return generate(ideal, text.digitAt(at + 2), text.digitAt(at + 3));
            case '-':
                return drop(ideal, text.digitAt(at + 2));
            case 'z':
                return clear(ideal);
            case 'c':
                return close(ideal);
            case 'm':
                return merge(ideal);
            default:
                return back();
        }
    }

    // ---- what is told

    public int of(int ideal, int k, int what) {
        if (noGenerator(ideal, k) || what < 0 || what > 2) {
            return NONE;
        }
        Ideal asked = now.ideal(ideal);
        switch (what) {
            case 0:
                return asked.powerA(k);
            case 1:
                return asked.powerB(k);
            default:
                return asked.isLeast(k) ? 1 : 0;
        }
    }

    public int told(int ideal, int what) {
        if (noIdeal(ideal) || what < 0 || what > 4) {
            return NONE;
        }
        Ideal asked = now.ideal(ideal);
        if (what == 0) {
            return asked.size();
        }
        if (what == 1) {
            return asked.countLeast();
        }
        if (asked.size() == 0) {
            return STATE;
        }
        if (what == 2) {
            hull.wrap(asked);
            return hull.size();
        }
        return what == 3 ? closedness(asked) : countJumps(asked);
    }

    public int in(int ideal, int a, int b, int what) {
        if (noIdeal(ideal) || what < 0 || what > 1) {
            return NONE;
        }
        if (badTerm(a, b)) {
            return BAD;
        }
        Ideal asked = now.ideal(ideal);
        if (what == 0) {
            return asked.contains(a, b) ? 1 : 0;
        }
        if (asked.size() == 0) {
            return STATE;
        }
        hull.wrap(asked);
        return hull.covers(a, b) ? 1 : 0;
    }

    public int face(int ideal, int i, int what) {
        if (noIdeal(ideal)) {
            return NONE;
        }
        Ideal asked = now.ideal(ideal);
        if (asked.size() == 0) {
            return STATE;
        }
        hull.wrap(asked);
        if (i < 0 || i >= hull.size() || what < 0 || what > 2) {
            return NONE;
        }
        switch (what) {
            case 0:
                return hull.weightA(i);
            case 1:
                return hull.weightB(i);
            default:
                return hull.level(i);
        }
    }

    // ---- at fractions

    public int held(int ideal, int a, int b, int num, int den) {
        if (noIdeal(ideal)) {
            return NONE;
        }
        if (badTerm(a, b) || badFraction(num, den)) {
            return BAD;
        }
        Ideal asked = now.ideal(ideal);
        if (asked.size() == 0) {
            return STATE;
        }
        hull.wrap(asked);
        return hull.barring(a, b, num, den) < 0 ? 1 : 0;
    }

    public int reason(int ideal, int a, int b, int num, int den, int i) {
        if (noIdeal(ideal) || i < 0 || i > 4) {
            return NONE;
        }
        if (badTerm(a, b) || badFraction(num, den)) {
            return BAD;
        }
        Ideal asked = now.ideal(ideal);
        if (asked.size() == 0) {
            return STATE;
        }
        hull.wrap(asked);
        int face = hull.barring(a, b, num, den);
        if (face < 0) {
            return LACKING;
        }
        switch (i) {
            case 0:
                return face;
            case 1:
                return hull.weigh(face, a + 1, b + 1);
            case 2:
                return hull.level(face);
            case 3:
                return num;
            default:
                return den;
        }
    }

    public long jump(int ideal, int a, int b, int part) {
        if (noIdeal(ideal) || badTerm(a, b) || badPart(part)) {
            return NO;
        }
        Ideal asked = now.ideal(ideal);
        if (asked.size() == 0) {
            return NO;
        }
        hull.wrap(asked);
        int face = hull.tightest(a, b);
        if (face < 0) {
            return NO;
        }
        return lowest(hull.weigh(face, a + 1, b + 1), hull.level(face), part);
    }

    public long jumps(int ideal, int i, int part) {
        if (noIdeal(ideal) || badPart(part)) {
            return NO;
        }
        Ideal asked = now.ideal(ideal);
        if (asked.size() == 0 || i < 0 || i >= countJumps(asked)) {
            return NO;
        }
        return lowest(jumpRow.above(i), jumpRow.below(i), part);
    }

    public int lacks(int ideal, int num, int den) {
        if (noIdeal(ideal)) {
            return NONE;
        }
        if (badFraction(num, den)) {
            return BAD;
        }
        Ideal asked = now.ideal(ideal);
        if (asked.size() == 0) {
            return STATE;
        }
        return countBarred(asked, num, den);
    }

    // ---- products, reductions

    public int height(int ideal, int what, int a) {
        if (noIdeal(ideal) || noHeightCode(what)) {
            return NONE;
        }
        if (a < 0 || a > TOP_PLACE) {
            return BAD;
        }
        if (what == 0) {
            return now.ideal(ideal).lowestB(a);
        }
        if (what == 1) {
            return lowerOf(now.ideal(0).lowestB(a), now.ideal(1).lowestB(a));
        }
        left.ofAllTerms();
        if (what == 2) {
            left.multiply(now.ideal(0));
            left.multiply(now.ideal(1));
        } else {
            for (int n = FIRST_POWER_CODE; n < what; n++) {
                left.multiply(now.ideal(ideal));
            }
        }
        return left.at(a);
    }

    public int reduces(int what) {
        if (what < 0 || what > 1) {
            return NONE;
        }
        return what == 0 ? reduction() : met();
    }

    // ---- seen, odds

    public int see(int i, int num, int den) {
        if (i == -1) {
            now.seen.empty();
            return 0;
        }
        if (i < 0 || i > 99) {
            return NONE;
        }
        if (badFraction(num, den)) {
            return BAD;
        }
        return now.seen.add(i, num, den);
    }

    public int fits(int ideal, int k, int letter, int what) {
        if (noGenerator(ideal, k) || letter < 0 || letter > 1 || what < 0 || what > 1) {
            return NONE;
        }
        int many = 0;
        int least = LACKING;
        for (int power = 0; power <= TOP_POWER; power++) {
            if (fitsWith(ideal, k, letter, power)) {
                many++;
                least = least == LACKING ? power : least;
            }
        }
        return what == 0 ? many : least;
    }

    public long odds(int ideal, int num, int den, int part) {
        if (noIdeal(ideal) || badFraction(num, den) || badPart(part)) {
            return NO;
        }
        Ideal asked = now.ideal(ideal);
        if (asked.size() == 0) {
            return NO;
        }
        return lowest(ALL_TERMS - countBarred(asked, num, den), ALL_TERMS, part);
    }

    public long mean(int ideal, int part) {
        if (noIdeal(ideal) || badPart(part)) {
            return NO;
        }
        Ideal asked = now.ideal(ideal);
        if (asked.size() == 0) {
            return NO;
        }
        return lowest(asked.sumOfPowers(), asked.size(), part);
    }

    // ---- events, books

    public int event(int what, int n) {
        if (what == -1) {
            now.events.empty();
            return 0;
        }
        if (what < 0 || what > 2) {
            return NONE;
        }
        if (badEventNumber(what, n)) {
            return BAD;
        }
        return now.events.add(what, n, 0);
    }

    public int after(int what) {
        if (what < 0 || what > 2) {
            return NONE;
        }
        trial.copy(now.ideal(0));
        for (int row = 0; row < now.events.size(); row++) {
            happen(now.events.first(row), now.events.second(row));
        }
        if (what == 0) {
            return trial.size();
        }
        if (trial.size() == 0) {
            return STATE;
        }
        return what == 1 ? countJumps(trial) : closedness(trial);
    }

    public int book(int term, int is) {
        if (term == -1) {
            now.book.empty();
            return 0;
        }
        if (term < 0 || term > 99) {
            return NONE;
        }
        if (is < 0 || is > 1) {
            return BAD;
        }
        return now.book.add(term, is, 0);
    }

    public int looked() {
        for (int row = 0; row < now.book.size(); row++) {
            int term = now.book.first(row);
            int is = now.ideal(0).contains(term / 10, term % 10) ? 1 : 0;
            if (is != now.book.second(row)) {
                return row;
            }
        }
        return LACKING;
    }

    // ---- judging, the image, tapes

    public int judge(int ideal, int tape, int i) {
        if (noIdeal(ideal) || noTape(tape)) {
            return NONE;
        }
        Tape row = tapes[tape];
        if (!row.isNothing() && row.sort() != Tape.BYTES) {
            return CAST;
        }
        for (int a = 0; a <= TOP_POWER; a++) {
            long place = (long) i + a;
            if (!row.hasRange(place, 1)) {
                return 100 + a;
            }
            if (row.get((int) place) != now.ideal(ideal).lowestB(a)) {
                return a;
            }
        }
        return LACKING;
    }

    public int image() {
        image.copy(now);
        imageTaken = true;
        return now.countGenerators();
    }

    public int undo() {
        if (!imageTaken) {
            return STATE;
        }
        now.copy(image);
        deeds.forget();
        return now.countGenerators();
    }

    public int count(int what) {
        switch (what) {
            case 0:
                return now.seen.size();
            case 1:
                return now.events.size();
            case 2:
                return now.book.size();
            case 3:
                return text.size();
            case 4:
                return deeds.size();
            default:
                return BAD;
        }
    }

    public int tape(int tape, int sort, int n) {
        if (noTape(tape)) {
            return NONE;
        }
        if (sort == Tape.NO_ROW) {
            tapes[tape].become(Tape.NO_ROW, 0);
            return 1;
        }
        if (sort < Tape.BYTES || sort > Tape.BOOLEANS || n > TOP_PLACE) {
            return BAD;
        }
        if (n < 0) {
            return SIZE;
        }
        tapes[tape].become(sort, n);
        return 1;
    }

    public int item(int tape, int i, long v) {
        if (noTape(tape)) {
            return NONE;
        }
        Tape row = tapes[tape];
        if (row.isNothing()) {
            return NOTHING;
        }
        if (!row.hasRange(i, 1)) {
            return PLACE;
        }
        row.set(i, v);
        return 1;
    }

    public long peek(int tape, int i) {
        if (noTape(tape) || !tapes[tape].hasRange(i, 1)) {
            return NO;
        }
        return tapes[tape].get(i);
    }

    public int shift(int tape, int i, int other, int j, int n) {
        if (noTape(tape) || noTape(other)) {
            return NONE;
        }
        Tape from = tapes[tape];
        Tape to = tapes[other];
        if (from.isNothing() || to.isNothing()) {
            return NOTHING;
        }
        if (from.sort() != to.sort()) {
            return CAST;
        }
        if (!from.hasRange(i, n) || !to.hasRange(j, n)) {
            return PLACE;
        }
        to.take(j, from, i, n);
        return n;
    }

    // ---- what may be asked

    private static boolean noIdeal(int ideal) {
        return ideal < 0 || ideal > 1;
    }

    private boolean noGenerator(int ideal, int k) {
        return noIdeal(ideal) || k < 0 || k >= now.ideal(ideal).size();
    }

    private static boolean badTerm(int a, int b) {
        return a < 0 || a > TOP_POWER || b < 0 || b > TOP_POWER;
    }

    private static boolean badFraction(int num, int den) {
        return num < 1 || num > TOP_FRACTION_PART || den < 1 || den > TOP_FRACTION_PART;
    }

    private static boolean badPart(int part) {
        return part < 0 || part > 1;
    }

    private static boolean noHeightCode(int what) {
        boolean single = what >= 0 && what <= 2;
        return !single && (what < FIRST_POWER_CODE || what > LAST_POWER_CODE);
    }

    private static boolean badEventNumber(int what, int n) {
        switch (what) {
            case 0:
                return n < 0 || n > 99;
            case 1:
                return n < 0 || n >= MOST_GENERATORS;
            default:
                return n < 1 || n > TOP_POWER;
        }
    }

    private static boolean noTape(int tape) {
        return tape < 0 || tape >= TAPES;
    }

    // ---- what calls share

    /** Leaves the JUMPS in jumpRow, for those who go on to read them. */
    private int countJumps(Ideal asked) {
        hull.wrap(asked);
        jumpRow.gather(hull);
        return jumpRow.size();
    }

    private int countBarred(Ideal asked, int num, int den) {
        hull.wrap(asked);
        int barred = 0;
        for (int a = 0; a <= TOP_POWER; a++) {
            for (int b = 0; b <= TOP_POWER; b++) {
                if (hull.barring(a, b, num, den) >= 0) {
                    barred++;
                }
            }
        }
        return barred;
    }

    private int closedness(Ideal asked) {
        hull.wrap(asked);
        for (int a = 0; a <= TOP_POWER; a++) {
            for (int b = 0; b <= TOP_POWER; b++) {
                if (hull.covers(a, b) && !asked.contains(a, b)) {
                    return 0;
                }
            }
        }
        return 1;
    }

    private int reduction() {
        Ideal zero = now.ideal(0);
        Ideal one = now.ideal(1);
        if (zero.size() == 0 || one.size() == 0) {
            return 0;
        }
        for (int k = 0; k < zero.size(); k++) {
            if (!one.contains(zero.powerA(k), zero.powerB(k))) {
                return 0;
            }
        }
        hull.wrap(zero);
        for (int k = 0; k < one.size(); k++) {
            if (!hull.covers(one.powerA(k), one.powerB(k))) {
                return 0;
            }
        }
        return 1;
    }

    private int met() {
        Ideal one = now.ideal(1);
        left.ofAllTerms();
        left.multiply(now.ideal(0));
        right.ofAllTerms();
        right.multiply(one);
        for (int r = 0; r <= TOP_MET; r++) {
            if (left.isLike(right)) {
                return r;
            }
            left.multiply(one);
            right.multiply(one);
        }
        return LACKING;
    }

    private boolean fitsWith(int ideal, int k, int letter, int power) {
        Ideal changed = now.ideal(ideal);
        int a = letter == 0 ? power : changed.powerA(k);
        int b = letter == 1 ? power : changed.powerB(k);
        int like = changed.find(a, b);
        if (like >= 0 && like != k) {
            return false;
        }
        if (ideal == 1) {
            return isAsSeen(now.ideal(0));
        }
        trial.copy(changed);
        trial.replace(k, a, b);
        return isAsSeen(trial);
    }

    private boolean isAsSeen(Ideal zero) {
        if (now.seen.size() == 0) {
            return true;
        }
        if (zero.size() == 0) {
            return false;
        }
        int many = countJumps(zero);
        for (int row = 0; row < now.seen.size(); row++) {
            int i = now.seen.first(row);
            if (i >= many || jumpRow.compare(i, now.seen.second(row), now.seen.third(row)) != 0) {
                return false;
            }
        }
        return true;
    }

    private void happen(int what, int n) {
        switch (what) {
            case 0:
                trial.addIfNew(n / 10, n % 10);
                break;
            case 1:
                trial.remove(n);
                break;
            default:
                trial.lessen(n);
                break;
        }
    }

    private static int lowerOf(int one, int other) {
        if (one == LACKING) {
            return other;
        }
        return other == LACKING ? one : Math.min(one, other);
    }

    private static long lowest(int above, int below, int part) {
        int divisor = commonDivisor(above, below);
        if (divisor == 0) {
            return NO;
        }
        return part == 0 ? above / divisor : below / divisor;
    }

    /** The numbers here stay below 1000, for which Euclid needs far fewer steps than 64. */
    private static int commonDivisor(int x, int y) {
        int greater = x;
        int rest = y;
        for (int step = 0; step < 64 && rest != 0; step++) {
            int next = greater % rest;
            greater = rest;
            rest = next;
        }
        return greater;
    }

    /** GENERATORS as they came; the powers are 0 .. 9 always. */
    private static final class Ideal {
        private final int[] as;
        private final int[] bs;
        private int size;

        Ideal() {
            as = new int[MOST_GENERATORS];
            bs = new int[MOST_GENERATORS];
            size = 0;
        }

        int size() {
            return size;
        }

        int powerA(int k) {
            return k >= 0 && k < size ? as[k] : 0;
        }

        int powerB(int k) {
            return k >= 0 && k < size ? bs[k] : 0;
        }

        /** The number of a GENERATOR, below 0 if the TERM is none. */
        int find(int a, int b) {
            for (int k = 0; k < size; k++) {
                if (as[k] == a && bs[k] == b) {
                    return k;
                }
            }
            return -1;
        }

        void add(int a, int b) {
            if (size < MOST_GENERATORS) {
                as[size] = a;
                bs[size] = b;
                size++;
            }
        }

        void addIfNew(int a, int b) {
            if (find(a, b) < 0) {
                add(a, b);
            }
        }

        void replace(int k, int a, int b) {
            if (k >= 0 && k < size) {
                as[k] = a;
                bs[k] = b;
            }
        }

        void remove(int k) {
            if (k < 0 || k >= size) {
                return;
            }
            for (int i = k; i + 1 < size; i++) {
                as[i] = as[i + 1];
                bs[i] = bs[i + 1];
            }
            size--;
        }

        void empty() {
            size = 0;
        }

        void copy(Ideal from) {
            size = from.size;
            for (int k = 0; k < size; k++) {
                as[k] = from.as[k];
                bs[k] = from.bs[k];
            }
        }

        int countUnknownTo(Ideal other) {
            int unknown = 0;
            for (int k = 0; k < size; k++) {
                if (other.find(as[k], bs[k]) < 0) {
                    unknown++;
                }
            }
            return unknown;
        }

        /** Works in its own rows: what is kept never overtakes what is still to be read. */
        void lessen(int n) {
            int before = size;
            size = 0;
            for (int k = 0; k < before; k++) {
                addIfNew(Math.max(0, as[k] - n), Math.max(0, bs[k] - n));
            }
        }

        boolean contains(int a, int b) {
            for (int k = 0; k < size; k++) {
                if (as[k] <= a && bs[k] <= b) {
                    return true;
                }
            }
            return false;
        }

        boolean isLeast(int k) {
            int a = powerA(k);
            int b = powerB(k);
            for (int i = 0; i < size; i++) {
                if (i != k && as[i] <= a && bs[i] <= b) {
                    return false;
                }
            }
            return true;
        }

        int countLeast() {
            int least = 0;
            for (int k = 0; k < size; k++) {
                if (isLeast(k)) {
                    least++;
                }
            }
            return least;
        }

        int lowestB(int a) {
            int low = LACKING;
            for (int k = 0; k < size; k++) {
                if (as[k] <= a) {
                    low = lowerOf(low, bs[k]);
                }
            }
            return low;
        }

        int sumOfPowers() {
            int sum = 0;
            for (int k = 0; k < size; k++) {
                sum += as[k] + bs[k];
            }
            return sum;
        }

        /** LEVEL by these weights; it must have GENERATORS. */
        int leastWeight(int s, int t) {
            int least = s * powerA(0) + t * powerB(0);
            for (int k = 1; k < size; k++) {
                least = Math.min(least, s * as[k] + t * bs[k]);
            }
            return least;
        }

        int countOfWeight(int s, int t, int weight) {
            int many = 0;
            for (int k = 0; k < size; k++) {
                if (s * as[k] + t * bs[k] == weight) {
                    many++;
                }
            }
            return many;
        }
    }

    /** The FACES of the IDEAL that was wrapped last. */
    private static final class Hull {
        /** All s, t of 1 .. 9 without a common divisor, by s by t, the greatest first. */
        private static final int[] S = {
            9, 8, 7, 6, 5, 9, 4, 7, 3, 8, 5, 7, 9, 2, 9, 7, 5, 8, 3, 7, 4, 9, 5, 6, 7, 8, 9, 1,
            8, 7, 6, 5, 4, 7, 3, 5, 2, 5, 3, 4, 5, 1, 4, 3, 2, 3, 1, 2, 1, 2, 1, 1, 1, 1, 1
        };
        private static final int[] T = {
            1, 1, 1, 1, 1, 2, 1, 2, 1, 3, 2, 3, 4, 1, 5, 4, 3, 5, 2, 5, 3, 7, 4, 5, 6, 7, 8, 1,
            9, 8, 7, 6, 5, 9, 4, 7, 3, 8, 5, 7, 9, 2, 9, 7, 5, 8, 3, 7, 4, 9, 5, 6, 7, 8, 9
        };

        /** Between n corners there are n - 1 slanted FACES, and two that are not. */
        private static final int MOST_FACES = MOST_GENERATORS + 1;

        private final int[] ss;
        private final int[] ts;
        private final int[] levels;
        private int size;

        Hull() {
            ss = new int[MOST_FACES];
            ts = new int[MOST_FACES];
            levels = new int[MOST_FACES];
            size = 0;
        }

        void wrap(Ideal ideal) {
            size = 0;
            if (ideal.size() == 0) {
                return;
            }
            add(1, 0, ideal.leastWeight(1, 0));
            for (int w = 0; w < S.length && w < T.length; w++) {
                int level = ideal.leastWeight(S[w], T[w]);
                if (ideal.countOfWeight(S[w], T[w], level) >= 2) {
                    add(S[w], T[w], level);
                }
            }
            add(0, 1, ideal.leastWeight(0, 1));
        }

        private void add(int s, int t, int level) {
            if (size < MOST_FACES) {
                ss[size] = s;
                ts[size] = t;
                levels[size] = level;
                size++;
            }
        }

        int size() {
            return size;
        }

        int weightA(int i) {
            return i >= 0 && i < size ? ss[i] : 0;
        }

        int weightB(int i) {
            return i >= 0 && i < size ? ts[i] : 0;
        }

        int level(int i) {
            return i >= 0 && i < size ? levels[i] : 0;
        }

        int weigh(int i, int a, int b) {
            return weightA(i) * a + weightB(i) * b;
        }

        boolean covers(int a, int b) {
            for (int i = 0; i < size; i++) {
                if (ss[i] * a + ts[i] * b < levels[i]) {
                    return false;
                }
            }
            return true;
        }

        /** The first FACE by which a TERM isn't HELD, below 0 if it is. */
        int barring(int a, int b, int num, int den) {
            for (int i = 0; i < size; i++) {
                int weight = ss[i] * (a + 1) + ts[i] * (b + 1);
                if (levels[i] > 0 && weight * den <= num * levels[i]) {
                    return i;
                }
            }
            return -1;
        }

        /** A FACE that has the JUMP of a TERM, below 0 if there is none. */
        int tightest(int a, int b) {
            int best = -1;
            int bestWeight = 0;
            for (int i = 0; i < size; i++) {
                int weight = ss[i] * (a + 1) + ts[i] * (b + 1);
                if (levels[i] > 0 && (best < 0 || weight * levels[best] < bestWeight * levels[i])) {
                    best = i;
                    bestWeight = weight;
                }
            }
            return best;
        }

        /** The least b with a, b in the CLOSURE; above 9 if there is none up to it. */
        private int floorAt(int a) {
            for (int b = 0; b <= TOP_POWER; b++) {
                if (covers(a, b)) {
                    return b;
                }
            }
            return TOP_POWER + 1;
        }

        /**
         * How many corners there are: TERMS without which not all of the CLOSURE would be IN. There may be
         * more of them than an IDEAL has room for; then it holds the first ones alone.
         */
        int putCorners(Ideal to) {
            to.empty();
            int corners = 0;
            int lowest = TOP_POWER + 1;
            for (int a = 0; a <= TOP_POWER; a++) {
                int b = floorAt(a);
                if (b < lowest) {
                    to.add(a, b);
                    corners++;
                    lowest = b;
                }
            }
            return corners;
        }
    }

    /** The JUMPS of an IDEAL, each once, the least first; not in lowest terms. */
    private static final class JumpRow {
        private final int[] aboves;
        private final int[] belows;
        private int size;

        JumpRow() {
            aboves = new int[ALL_TERMS];
            belows = new int[ALL_TERMS];
            size = 0;
        }

        void gather(Hull hull) {
            size = 0;
            for (int a = 0; a <= TOP_POWER; a++) {
                for (int b = 0; b <= TOP_POWER; b++) {
                    int face = hull.tightest(a, b);
                    if (face >= 0) {
                        insert(hull.weigh(face, a + 1, b + 1), hull.level(face));
                    }
                }
            }
        }

        /** Seven halvings leave nothing of a hundred JUMPS. */
        private void insert(int above, int below) {
            int low = 0;
            int high = size;
            for (int step = 0; step < 8 && low < high; step++) {
                int middle = (low + high) / 2;
                int order = compare(middle, above, below);
                if (order == 0) {
                    return;
                }
                if (order < 0) {
                    low = middle + 1;
                } else {
                    high = middle;
                }
            }
            insertAt(low, above, below);
        }

        private void insertAt(int i, int above, int below) {
            if (i < 0 || i > size || size >= ALL_TERMS) {
                return;
            }
            System.arraycopy(aboves, i, aboves, i + 1, size - i);
            System.arraycopy(belows, i, belows, i + 1, size - i);
            aboves[i] = above;
            belows[i] = below;
            size++;
        }

        int size() {
            return size;
        }

        int above(int i) {
            return i >= 0 && i < size ? aboves[i] : 0;
        }

        int below(int i) {
            return i >= 0 && i < size ? belows[i] : 0;
        }

        /** Below 0, 0, above 0 as JUMP i is less than, like, more than the fraction; both are of small numbers. */
        int compare(int i, int above, int below) {
            if (i < 0 || i >= size) {
                return -1;
            }
            return aboves[i] * below - above * belows[i];
        }
    }

    /** HEIGHTS of a PRODUCT at 0 .. 60: far enough for six of an IDEAL, which reach 54. */
    private static final class Heights {
        private static final int FAR = 1000000;

        private final int[] row;

        Heights() {
            row = new int[TOP_PLACE + 1];
        }

        void ofAllTerms() {
            for (int a = 0; a <= TOP_PLACE; a++) {
                row[a] = 0;
            }
        }

        /** From the far end on, for a HEIGHT is made of those at its place and ahead of it. */
        void multiply(Ideal ideal) {
            for (int a = TOP_PLACE; a >= 0; a--) {
                int low = FAR;
                for (int k = 0; k < ideal.size(); k++) {
                    int rest = a - ideal.powerA(k);
                    if (rest >= 0 && rest <= a) {
                        low = Math.min(low, row[rest] + ideal.powerB(k));
                    }
                }
                row[a] = low;
            }
        }

        int at(int a) {
            return a >= 0 && a <= TOP_PLACE && row[a] < FAR ? row[a] : LACKING;
        }

        boolean isLike(Heights other) {
            for (int a = 0; a <= TOP_PLACE; a++) {
                if (row[a] != other.row[a]) {
                    return false;
                }
            }
            return true;
        }
    }

    /** What the latest DEEDS found; older ones give way in a ring. */
    private static final class Deeds {
        private static final int MOST = 10;

        private final Ideal[] before;
        private final int[] whose;
        private int next;
        private int size;

        Deeds() {
            before = new Ideal[MOST];
            for (int i = 0; i < MOST; i++) {
                before[i] = new Ideal();
            }
            whose = new int[MOST];
            next = 0;
            size = 0;
        }

        int size() {
            return size;
        }

        void keep(int ideal, Ideal as) {
            before[next].copy(as);
            whose[next] = ideal;
            next = next + 1 < MOST ? next + 1 : 0;
            size = Math.min(size + 1, MOST);
        }

        void takeBack(Told from) {
            if (size == 0) {
                return;
            }
            next = next > 0 ? next - 1 : MOST - 1;
            from.ideal(whose[next]).copy(before[next]);
            size--;
        }

        void forget() {
            size = 0;
        }
    }

    /** THE TEXT, and how its CLAUSES are written. */
    private static final class Text {
        private static final int MOST_SIGNS = 100;
        private static final int MOST_CLAUSES = 12;

        private final byte[] signs;
        private int size;

        Text() {
            signs = new byte[MOST_SIGNS];
            size = 0;
        }

        int size() {
            return size;
        }

        boolean isFull() {
            return size >= MOST_SIGNS;
        }

        void add(int sign) {
            if (size < MOST_SIGNS) {
                signs[size] = (byte) sign;
                size++;
            }
        }

        void empty() {
            size = 0;
        }

        /** Below 0 behind the end. */
        int signAt(int place) {
            return place >= 0 && place < size ? signs[place] : -1;
        }

        int digitAt(int place) {
            return signAt(place) - '0';
        }

        private boolean isDigit(int place) {
            return signAt(place) >= '0' && signAt(place) <= '9';
        }

        /** How many signs a CLAUSE has that begins so; 0: none does. */
        static int clauseLength(int sign) {
            switch (sign) {
                case '+':
                    return 4;
                case '-':
                    return 3;
                case 'z':
                case 'c':
                case 'm':
                    return 2;
                case 'u':
                    return 1;
                default:
                    return 0;
            }
        }

        /** The FAULT, below 0 if there is none; a place at the end is the end itself. */
        int faultPlace() {
            int start = 0;
            for (int clause = 1; clause <= MOST_CLAUSES; clause++) {
                int length = clauseLength(signAt(start));
                if (length == 0) {
                    return start;
                }
                for (int i = 1; i < length; i++) {
                    if (!isDigit(start + i)) {
                        return start + i;
                    }
                }
                int behind = start + length;
                if (behind == size) {
                    return -1;
                }
                if (signAt(behind) != ';' || clause == MOST_CLAUSES) {
                    return behind;
                }
                start = behind + 1;
            }
            return start;
        }
    }

    /** Rows of up to three numbers told by hand, as many as it was made for. */
    private static final class Rows {
        private final int most;
        private final int[] firsts;
        private final int[] seconds;
        private final int[] thirds;
        private int size;

        Rows(int most) {
            this.most = Math.max(0, most);
            firsts = new int[this.most];
            seconds = new int[this.most];
            thirds = new int[this.most];
            size = 0;
        }

        int size() {
            return size;
        }

        int first(int row) {
            return row >= 0 && row < size ? firsts[row] : 0;
        }

        int second(int row) {
            return row >= 0 && row < size ? seconds[row] : 0;
        }

        int third(int row) {
            return row >= 0 && row < size ? thirds[row] : 0;
        }

        /** How many there are then, or FULL. */
        int add(int first, int second, int third) {
            if (size >= most) {
                return FULL;
            }
            firsts[size] = first;
            seconds[size] = second;
            thirds[size] = third;
            size++;
            return size;
        }

        void empty() {
            size = 0;
        }

        void copy(Rows from) {
            size = Math.min(from.size, most);
            for (int row = 0; row < size; row++) {
                firsts[row] = from.firsts[row];
                seconds[row] = from.seconds[row];
                thirds[row] = from.thirds[row];
            }
        }
    }

    /** All that THE IMAGE is of. */
    private static final class Told {
        private final Ideal zero;
        private final Ideal one;
        final Rows seen;
        final Rows events;
        final Rows book;

        Told() {
            zero = new Ideal();
            one = new Ideal();
            seen = new Rows(4);
            events = new Rows(8);
            book = new Rows(8);
        }

        Ideal ideal(int ideal) {
            return ideal == 0 ? zero : one;
        }

        int countGenerators() {
            return zero.size() + one.size();
        }

        void copy(Told from) {
            zero.copy(from.zero);
            one.copy(from.one);
            seen.copy(from.seen);
            events.copy(from.events);
            book.copy(from.book);
        }
    }

    /** A TAPE; an item of any sort is held as the long that it is worth. */
    private static final class Tape {
        static final int NO_ROW = -1, BYTES = 0, SHORTS = 1, INTS = 2, LONGS = 3, BOOLEANS = 4;

        private final long[] items;
        private int sort;
        private int size;

        Tape() {
            items = new long[TOP_PLACE];
            sort = NO_ROW;
            size = 0;
        }

        void become(int newSort, int newSize) {
            sort = newSort;
            size = Math.max(0, Math.min(newSize, TOP_PLACE));
            for (int i = 0; i < size; i++) {
                items[i] = 0L;
            }
        }

        boolean isNothing() {
            return sort == NO_ROW;
        }

        int sort() {
            return sort;
        }

        /** In longs, for a place and a number together may be more than an int. */
        boolean hasRange(long from, long many) {
            return from >= 0 && many >= 0 && from + many <= size;
        }

        long get(int i) {
            return i >= 0 && i < size ? items[i] : 0L;
        }

        void set(int i, long v) {
            if (i >= 0 && i < size) {
                items[i] = narrow(v);
            }
        }

        private long narrow(long v) {
            switch (sort) {
                case BYTES:
                    return (byte) v;
                case SHORTS:
                    return (short) v;
                case INTS:
                    return (int) v;
                case LONGS:
                    return v;
                default:
                    return v != 0L ? 1L : 0L;
            }
        }

        void take(int at, Tape from, int start, int many) {
            if (hasRange(at, many) && from.hasRange(start, many)) {
                System.arraycopy(from.items, start, items, at, many);
            }
        }
    }
}
