/** A school that is taught by its youngest, a rung a week, as ../shared/DOC.md promises it. */
public final class ThursdayRungs {
    public static final int NONE = -1, UNKNOWN = -101, OUTSIDE = -102, STATE = -103, FULL = -104;

    private static final int RULES = 12, SLIPS = 10, KINDS = 5, MOST_THURSDAYS = 60;

    private final Page page;
    private final School school;
    private final School kept;
    private final School trial;
    private final Draws draws;
    private int schoolsRead;

    public ThursdayRungs() {
        page = new Page();
        school = new School();
        kept = new School();
        trial = new School();
        draws = new Draws();
        schoolsRead = 0;
    }

    // ---- the school

    public int letter(int code) {
        if (code < 1 || code > 126) {
            return OUTSIDE;
        }
        if (page.isFull()) {
            return FULL;
        }
        page.add(code);
        return page.size;
    }

    public int blank() {
        int had = page.size;
        page.size = 0;
        return had;
    }

    public int fault() {
        return page.firstMisfit();
    }

    public int school() {
        if (!page.isSchool()) {
            return STATE;
        }
        school.readFrom(page);
        page.size = 0;
        kept.size = 0;
        schoolsRead++;
        return school.size;
    }

    public int child(int child, int what) {
        if (!school.has(child)) {
            return UNKNOWN;
        }
        switch (what) {
            case 0: return school.kinds[child];
            case 1: return school.slips[child];
            case 2: return school.known[child];
            case 3: return school.ill[child] ? 1 : 0;
            case 4: return school.taughtNowBy(child);
            case 5: return school.possibleSlips(child);
            case 6: return school.bestQuestion(child);
            default: return OUTSIDE;
        }
    }

    public int as(int child, int kind) {
        if (!school.has(child)) {
            return UNKNOWN;
        }
        if (kind < 0 || kind >= KINDS) {
            return OUTSIDE;
        }
        return Kind.isA(school.kinds[child], kind) ? child : NONE;
    }

    public int teaches(int child, int rule) {
        int refusal = refusalOf(child, rule);
        return refusal != 0 ? refusal : Kind.passesOn(school.kinds[child], school.slips[child], rule);
    }

    // ---- rules, Thursdays

    public int tell(int child, int rule) {
        int refusal = refusalOf(child, rule);
        if (refusal != 0) {
            return refusal;
        }
        int knew = school.known[child];
        school.known[child] = rule;
        return knew;
    }

    public int ill(int child, boolean is) {
        if (!school.has(child)) {
            return UNKNOWN;
        }
        boolean was = school.ill[child];
        school.ill[child] = is;
        return was ? 1 : 0;
    }

    public int slip(int child, int slip) {
        if (!school.has(child)) {
            return UNKNOWN;
        }
        if (slip < 0 || slip >= SLIPS) {
            return OUTSIDE;
        }
        int was = school.slips[child];
        school.slips[child] = slip;
        return was;
    }

    public int thursday() {
        return school.isNone() ? STATE : school.holdThursday();
    }

    // ---- what would be

    public int arrives(int child, int rule) {
        int refusal = refusalOf(child, rule);
        return refusal != 0 ? refusal : school.atTop(child, rule, NONE);
    }

    public int from(int child, int rule) {
        int refusal = refusalOf(child, rule);
        return refusal != 0 ? refusal : school.sourcesOf(child, rule);
    }

    public int soon() {
        return school.isNone() ? STATE : school.thursdaysToTop();
    }

    public int cure(int what) {
        if (what < 0 || what > 1) {
            return OUTSIDE;
        }
        if (school.isNone()) {
            return STATE;
        }
        int cured = school.bestToCure();
        return what == 0 ? cured : school.unchangedAtTop(cured);
    }

    // ---- what is heard

    public int hear(int child, int knew, int taught) {
        int refusal = refusalOf(child, knew);
        if (refusal != 0) {
            return refusal;
        }
        if (!isRule(taught)) {
            return OUTSIDE;
        }
        if (school.isHeardFull()) {
            return FULL;
        }
        school.addHeard(child, knew, taught);
        return school.heard;
    }

    public int forget() {
        int was = school.heard;
        school.heard = 0;
        return was;
    }

    public int terms(int thursdays, int seed, int what) {
        if (thursdays < 1 || thursdays > MOST_THURSDAYS || seed < 0 || what < 0 || what > 2) {
            return OUTSIDE;
        }
        if (school.isNone()) {
            return STATE;
        }
        trial.copyFrom(school);
        draws.seed = seed;
        int topTaught = 0;
        for (int i = 0; i < thursdays; i++) {
            trial.beginAnew(draws);
            topTaught += trial.isTaughtNext(trial.top()) ? 1 : 0;
            trial.holdThursday();
        }
        switch (what) {
            case 0: return topTaught;
            case 1: return trial.known[trial.top()] == NONE ? 0 : trial.known[trial.top()] + 1;
            default: return (int) draws.seed;
        }
    }

    // ---- what is told of all

    public int image() {
        if (school.isNone()) {
            return STATE;
        }
        kept.copyFrom(school);
        return kept.thursdays;
    }

    public int restore() {
        if (kept.isNone()) {
            return STATE;
        }
        school.copyFrom(kept);
        return school.thursdays;
    }

    public int count(int what) {
        switch (what) {
            case 0: return school.size;
            case 1: return school.knowing();
            case 2: return school.unlikeRules();
            case 3: return school.illOnes();
            case 4: return school.thursdays;
            case 5: return school.timesTaught;
            case 6: return school.isNone() ? 0 : school.unchangedAtTop(NONE);
            case 7: return school.heard;
            case 8: return page.size;
            case 9: return schoolsRead;
            default: return OUTSIDE;
        }
    }

    public long digest() {
        long h = 1039;
        for (int i = 0; i < school.size; i++) {
            h = withChild(h, i);
        }
        if (!school.isNone()) {
            h = with(h, soon());
            h = with(h, cure(0));
            h = with(h, cure(1));
        }
        for (int i = 0; i < page.size; i++) {
            h = with(h, page.codes[i]);
        }
        for (int what = 0; what <= 9; what++) {
            h = with(h, count(what));
        }
        return h;
    }

    private long withChild(long before, int child) {
        long h = before;
        for (int what = 0; what <= 6; what++) {
            h = with(h, child(child, what));
        }
        h = with(h, arrives(child, 0));
        h = with(h, arrives(child, 1));
        h = with(h, arrives(child, 5));
        return with(h, from(child, 3));
    }

    private static long with(long h, long number) {
        return 31 * h + number;
    }

    /** 0 stands for none: every refusal is below it. */
    private int refusalOf(int child, int rule) {
        if (!school.has(child)) {
            return UNKNOWN;
        }
        return isRule(rule) ? 0 : OUTSIDE;
    }

    private static boolean isRule(int rule) {
        return rule >= 0 && rule < RULES;
    }

    /** The kinds are numbers here, as the face tells them, so that nothing is made for a new school. */
    private static final class Kind {
        static final String LETTERS = "cptme";
        static final int CHILD = 0, PARROT = 1, TWIN = 2, MUMBLER = 3, ECHO = 4;

        static boolean isA(int kind, int other) {
            return other == CHILD || kind == other || kind == ECHO && other == PARROT;
        }

        static int passesOn(int kind, int slip, int rule) {
            switch (kind) {
                case PARROT: return rule;
                case TWIN: return (slip + RULES - rule) % RULES;
                case MUMBLER: return (rule - rule % 2 + slip) % RULES;
                case ECHO: return 2 * rule % RULES;
                default: return (rule + slip) % RULES;
            }
        }
    }

    /** The letters that may become a school. */
    private static final class Page {
        static final int MOST = 20;
        static final int LETTERS_A_CHILD = 3;

        final int[] codes = new int[MOST];
        int size = 0;

        boolean isFull() {
            return size >= MOST;
        }

        void add(int code) {
            if (!isFull()) {
                codes[size] = code;
                size++;
            }
        }

        int firstMisfit() {
            for (int place = 0; place < size; place++) {
                if (!fits(place)) {
                    return place;
                }
            }
            return size;
        }

        boolean isSchool() {
            return size % LETTERS_A_CHILD == 2 && children() >= 2 && firstMisfit() == size;
        }

        /** The last child has no comma behind it. */
        int children() {
            return (size + 1) / LETTERS_A_CHILD;
        }

        int kindOf(int child) {
            return Kind.LETTERS.indexOf((char) codes[LETTERS_A_CHILD * child]);
        }

        int slipOf(int child) {
            return codes[LETTERS_A_CHILD * child + 1] - '0';
        }

        private boolean fits(int place) {
            int code = codes[place];
            switch (place % LETTERS_A_CHILD) {
                case 0: return place / LETTERS_A_CHILD < School.MOST && Kind.LETTERS.indexOf((char) code) >= 0;
                case 1: return code >= '0' && code <= '9';
                default: return place / LETTERS_A_CHILD < School.MOST - 1 && code == ',';
            }
        }
    }

    /** The seed is long so that the product with it does not wrap. */
    private static final class Draws {
        long seed = 0;

        int next(int of) {
            seed = (1103515245L * seed + 12345L) % 2147483648L;
            return of < 1 ? 0 : (int) (seed / 65536L % of);
        }
    }

    /** All that an image keeps; without children it stands for no school, or for no image. */
    private static final class School {
        static final int MOST = 6, MOST_HEARD = 8;

        final int[] kinds = new int[MOST];
        final int[] slips = new int[MOST];
        final int[] known = new int[MOST];
        final boolean[] ill = new boolean[MOST];
        final int[] heardChild = new int[MOST_HEARD];
        final int[] heardKnew = new int[MOST_HEARD];
        final int[] heardTaught = new int[MOST_HEARD];
        int size = 0;
        int heard = 0;
        int thursdays = 0;
        int timesTaught = 0;

        boolean isNone() {
            return size == 0;
        }

        boolean has(int child) {
            return child >= 0 && child < size;
        }

        int top() {
            return size - 1;
        }

        void readFrom(Page page) {
            size = Math.min(page.children(), MOST);
            heard = 0;
            thursdays = 0;
            timesTaught = 0;
            for (int i = 0; i < size; i++) {
                kinds[i] = page.kindOf(i);
                slips[i] = page.slipOf(i);
                known[i] = NONE;
                ill[i] = false;
            }
        }

        void copyFrom(School other) {
            size = other.size;
            heard = other.heard;
            thursdays = other.thursdays;
            timesTaught = other.timesTaught;
            for (int i = 0; i < MOST; i++) {
                kinds[i] = other.kinds[i];
                slips[i] = other.slips[i];
                known[i] = other.known[i];
                ill[i] = other.ill[i];
            }
            for (int i = 0; i < MOST_HEARD; i++) {
                heardChild[i] = other.heardChild[i];
                heardKnew[i] = other.heardKnew[i];
                heardTaught[i] = other.heardTaught[i];
            }
        }

        int taughtNowBy(int child) {
            return known[child] == NONE || ill[child] ? NONE : Kind.passesOn(kinds[child], slips[child], known[child]);
        }

        boolean isTaughtNext(int child) {
            return child > 0 && !ill[child] && taughtNowBy(child - 1) != NONE;
        }

        /** Goes from the top down, so that each one teaches what it knew before it was taught. */
        int holdThursday() {
            int taught = 0;
            for (int i = top(); i > 0; i--) {
                if (isTaughtNext(i)) {
                    known[i] = taughtNowBy(i - 1);
                    taught++;
                }
            }
            thursdays++;
            timesTaught += taught;
            return taught;
        }

        void beginAnew(Draws draws) {
            known[0] = draws.next(RULES);
            int illNow = draws.next(size + 1);
            for (int i = 0; i < size; i++) {
                ill[i] = i == illNow;
            }
        }

        int atTop(int child, int rule, int cured) {
            int carried = rule;
            for (int i = child; i < top(); i++) {
                carried = Kind.passesOn(kinds[i], i == cured ? 0 : slips[i], carried);
            }
            return carried;
        }

        int sourcesOf(int child, int atTop) {
            int bits = 0;
            for (int rule = 0; rule < RULES; rule++) {
                if (atTop(child, rule, NONE) == atTop) {
                    bits |= 1 << rule;
                }
            }
            return bits;
        }

        int unchangedAtTop(int cured) {
            int unchanged = 0;
            for (int rule = 0; rule < RULES; rule++) {
                if (atTop(0, rule, cured) == rule) {
                    unchanged++;
                }
            }
            return unchanged;
        }

        int bestToCure() {
            int best = NONE;
            int most = unchangedAtTop(NONE);
            for (int i = 0; i < size; i++) {
                int unchanged = unchangedAtTop(i);
                if (unchanged > most) {
                    most = unchanged;
                    best = i;
                }
            }
            return best;
        }

        /** One who knows goes on knowing, so the nearest one below the top is the first to reach it. */
        int thursdaysToTop() {
            if (isNone()) {
                return NONE;
            }
            if (known[top()] != NONE) {
                return 0;
            }
            for (int i = top(); i >= 0; i--) {
                if (ill[i]) {
                    return NONE;
                }
                if (known[i] != NONE) {
                    return top() - i;
                }
            }
            return NONE;
        }

        boolean isHeardFull() {
            return heard >= MOST_HEARD;
        }

        void addHeard(int child, int knew, int taught) {
            if (!isHeardFull()) {
                heardChild[heard] = child;
                heardKnew[heard] = knew;
                heardTaught[heard] = taught;
                heard++;
            }
        }

        int possibleSlips(int child) {
            int bits = 0;
            for (int slip = 0; slip < SLIPS; slip++) {
                if (explainsHeard(child, slip)) {
                    bits |= 1 << slip;
                }
            }
            return bits;
        }

        private boolean explainsHeard(int child, int slip) {
            for (int i = 0; i < heard; i++) {
                if (heardChild[i] == child && Kind.passesOn(kinds[child], slip, heardKnew[i]) != heardTaught[i]) {
                    return false;
                }
            }
            return true;
        }

        int bestQuestion(int child) {
            int slipsLeft = possibleSlips(child);
            int best = NONE;
            int fewest = SLIPS + 1;
            for (int rule = 0; rule < RULES && slipsLeft != 0; rule++) {
                int worst = worstLeft(kinds[child], slipsLeft, rule);
                if (worst < fewest) {
                    fewest = worst;
                    best = rule;
                }
            }
            return best;
        }

        private static int worstLeft(int kind, int slipsLeft, int rule) {
            int worst = 0;
            for (int answer = 0; answer < RULES; answer++) {
                worst = Math.max(worst, leftBy(kind, slipsLeft, rule, answer));
            }
            return worst;
        }

        private static int leftBy(int kind, int slipsLeft, int rule, int answer) {
            int left = 0;
            for (int slip = 0; slip < SLIPS; slip++) {
                if ((slipsLeft >> slip & 1) == 1 && Kind.passesOn(kind, slip, rule) == answer) {
                    left++;
                }
            }
            return left;
        }

        int knowing() {
            int count = 0;
            for (int i = 0; i < size; i++) {
                count += known[i] == NONE ? 0 : 1;
            }
            return count;
        }

        int unlikeRules() {
            int bits = 0;
            for (int i = 0; i < size; i++) {
                bits |= known[i] == NONE ? 0 : 1 << known[i];
            }
            return Integer.bitCount(bits);
        }

        int illOnes() {
            int count = 0;
            for (int i = 0; i < size; i++) {
                count += ill[i] ? 1 : 0;
            }
            return count;
        }
    }
}
