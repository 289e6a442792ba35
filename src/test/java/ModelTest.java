import java.math.BigInteger;
import java.util.ArrayDeque;
import java.util.ArrayList;
import java.util.Deque;
import java.util.HashMap;
import java.util.HashSet;
import java.util.List;
import java.util.Map;
import java.util.Set;
import java.util.regex.Matcher;
import java.util.regex.Pattern;

/** Long runs of mixed calls against a model that does each promise in another, slower way. */
public final class ModelTest {
    private static final int NONE = -1, UNKNOWN = -101, OUTSIDE = -102, STATE = -103, FULL = -104;
    private static final int RUNS = 400, CALLS = 512;
    private static final String[] NAMES = {"letter", "blank", "fault", "school", "child", "as", "teaches", "tell",
        "ill", "slip", "thursday", "arrives", "from", "soon", "cure", "hear", "forget", "terms", "image", "restore",
        "count", "digest"};
    /** How often each call is drawn, so that pages, what is heard and images last for a while. */
    private static final int[] WEIGHTS = {3, 1, 3, 2, 14, 3, 4, 12, 12, 6, 16, 5, 5, 8, 5, 12, 1, 6, 3, 3, 8, 1};

    private static long seed = 20261118;

    public static void main(String[] args) {
        for (int run = 0; run < RUNS; run++) {
            if (!isRunAsDue(run)) {
                System.exit(1);
            }
        }
        System.out.println("all answers are as due");
    }

    private static boolean isRunAsDue(int run) {
        ThursdayRungs x = new ThursdayRungs();
        Model m = new Model();
        Deque<Call> next = new ArrayDeque<>();
        List<Call> made = new ArrayList<>();
        if (run % 8 != 0) {
            writeSchool(next);
        }
        // Each call is followed by a digest, which is a call, too.
        while (made.size() < CALLS / 2) {
            if (next.isEmpty() && draw(60) == 0) {
                writeSchool(next);
            }
            Call call = next.isEmpty() ? someCall() : next.remove();
            made.add(call);
            long got = answer(x, call);
            long want = answer(m, call);
            if (got != want || x.digest() != m.digest()) {
                System.out.println("run " + run + ": " + got + " answered or a wrong digest, due is " + want
                    + ", at the end of " + made);
                return false;
            }
        }
        return true;
    }

    private record Call(String name, int a, int b, int c) {
    }

    private static int draw(int of) {
        seed = seed * 6364136223846793005L + 1442695040888963407L;
        return (int) ((seed >>> 33) % of);
    }

    private static Call someCall() {
        int total = 0;
        for (int weight : WEIGHTS) {
            total += weight;
        }
        int at = draw(total);
        int i = 0;
        while (at >= WEIGHTS[i]) {
            at -= WEIGHTS[i];
            i++;
        }
        switch (NAMES[i]) {
            case "letter": return new Call("letter", number(127), 0, 0);
            case "child": return new Call("child", number(6), number(7), 0);
            case "as": return new Call("as", number(6), number(5), 0);
            case "ill": return new Call("ill", number(6), draw(3), 0);
            case "slip": return new Call("slip", number(6), number(10), 0);
            case "cure": return new Call("cure", number(2), 0, 0);
            case "terms": return new Call("terms", number(61), number(Integer.MAX_VALUE), number(3));
            case "count": return new Call("count", number(10), 0, 0);
            default: return new Call(NAMES[i], number(6), number(12), number(12));
        }
    }

    /** Below what is told, mostly; else the edge, or far from it. */
    private static int number(int below) {
        int how = draw(40);
        if (how == 0) {
            return below;
        }
        return how == 1 ? new int[] {-1, Integer.MIN_VALUE, Integer.MAX_VALUE}[draw(3)] : draw(below);
    }

    private static void writeSchool(Deque<Call> next) {
        StringBuilder text = new StringBuilder();
        int children = draw(12) == 0 ? 1 + draw(7) : 2 + draw(5);
        for (int i = 0; i < children; i++) {
            text.append(i > 0 ? "," : "").append("cptme".charAt(draw(5))).append((char) ('0' + draw(10)));
        }
        if (draw(8) == 0) {
            text.setCharAt(draw(text.length()), "c,9x:".charAt(draw(5)));
        }
        next.add(new Call("blank", 0, 0, 0));
        for (int i = 0; i < text.length(); i++) {
            next.add(new Call("letter", text.charAt(i), 0, 0));
        }
        next.add(new Call("fault", 0, 0, 0));
        next.add(new Call("school", 0, 0, 0));
    }

    private static long answer(ThursdayRungs x, Call call) {
        switch (call.name()) {
            case "letter": return x.letter(call.a());
            case "blank": return x.blank();
            case "fault": return x.fault();
            case "school": return x.school();
            case "child": return x.child(call.a(), call.b());
            case "as": return x.as(call.a(), call.b());
            case "teaches": return x.teaches(call.a(), call.b());
            case "tell": return x.tell(call.a(), call.b());
            case "ill": return x.ill(call.a(), call.b() == 0);
            case "slip": return x.slip(call.a(), call.b());
            case "thursday": return x.thursday();
            case "arrives": return x.arrives(call.a(), call.b());
            case "from": return x.from(call.a(), call.b());
            case "soon": return x.soon();
            case "cure": return x.cure(call.a());
            case "hear": return x.hear(call.a(), call.b(), call.c());
            case "forget": return x.forget();
            case "terms": return x.terms(call.a(), call.b(), call.c());
            case "image": return x.image();
            case "restore": return x.restore();
            case "count": return x.count(call.a());
            default: return x.digest();
        }
    }

    private static long answer(Model m, Call call) {
        switch (call.name()) {
            case "letter": return m.letter(call.a());
            case "blank": return m.blank();
            case "fault": return m.fault();
            case "school": return m.school();
            case "child": return m.child(call.a(), call.b());
            case "as": return m.as(call.a(), call.b());
            case "teaches": return m.teaches(call.a(), call.b());
            case "tell": return m.tell(call.a(), call.b());
            case "ill": return m.ill(call.a(), call.b() == 0);
            case "slip": return m.slip(call.a(), call.b());
            case "thursday": return m.thursday();
            case "arrives": return m.arrives(call.a(), call.b());
            case "from": return m.from(call.a(), call.b());
            case "soon": return m.soon();
            case "cure": return m.cure(call.a());
            case "hear": return m.hear(call.a(), call.b(), call.c());
            case "forget": return m.forget();
            case "terms": return m.terms(call.a(), call.b(), call.c());
            case "image": return m.image();
            case "restore": return m.restore();
            case "count": return m.count(call.a());
            default: return m.digest();
        }
    }

    private static class Kid {
        int slip;
        Integer knows = null;
        boolean ill = false;

        int teaches(int withSlip, int rule) {
            return (rule + withSlip) % 12;
        }

        int kind() {
            return 0;
        }

        static Kid of(char letter) {
            switch (letter) {
                case 'p': return new Parrot();
                case 't': return new Twin();
                case 'm': return new Mumbler();
                case 'e': return new Echo();
                default: return new Kid();
            }
        }
    }

    private static class Parrot extends Kid {
        @Override int teaches(int withSlip, int rule) {
            return rule;
        }

        @Override int kind() {
            return 1;
        }
    }

    private static class Twin extends Kid {
        @Override int teaches(int withSlip, int rule) {
            int at = withSlip;
            for (int i = 0; i < rule; i++) {
                at = at == 0 ? 11 : at - 1;
            }
            return at;
        }

        @Override int kind() {
            return 2;
        }
    }

    private static class Mumbler extends Kid {
        @Override int teaches(int withSlip, int rule) {
            return super.teaches(withSlip, rule / 2 * 2);
        }

        @Override int kind() {
            return 3;
        }
    }

    private static class Echo extends Parrot {
        @Override int teaches(int withSlip, int rule) {
            return rule < 6 ? rule + rule : rule + rule - 12;
        }

        @Override int kind() {
            return 4;
        }
    }

    private static final class Model {
        private static final Pattern SCHOOL = Pattern.compile("[cptme][0-9](,[cptme][0-9]){1,5}");
        private static final List<Class<?>> KINDS =
            List.of(Kid.class, Parrot.class, Twin.class, Mumbler.class, Echo.class);

        String page = "";
        List<Kid> kids = new ArrayList<>();
        List<int[]> heard = new ArrayList<>();
        int thursdays = 0;
        int taught = 0;
        int read = 0;
        Model kept = null;

        Model copy() {
            Model copy = new Model();
            copy.become(this);
            return copy;
        }

        void become(Model other) {
            kids = new ArrayList<>();
            for (Kid kid : other.kids) {
                Kid twin = Kid.of("cptme".charAt(kid.kind()));
                twin.slip = kid.slip;
                twin.knows = kid.knows;
                twin.ill = kid.ill;
                kids.add(twin);
            }
            heard = new ArrayList<>(other.heard);
            thursdays = other.thursdays;
            taught = other.taught;
        }

        boolean knowsNo(int child) {
            return child < 0 || child >= kids.size();
        }

        Kid top() {
            return kids.get(kids.size() - 1);
        }

        int letter(int code) {
            if (code <= 0 || code >= 127) {
                return OUTSIDE;
            }
            if (page.length() == 20) {
                return FULL;
            }
            page += (char) code;
            return page.length();
        }

        int blank() {
            int had = page.length();
            page = "";
            return had;
        }

        int fault() {
            int good = 0;
            while (good < page.length()) {
                Matcher matcher = SCHOOL.matcher(page.substring(0, good + 1));
                if (!matcher.matches() && !matcher.hitEnd()) {
                    break;
                }
                good++;
            }
            return good;
        }

        int school() {
            if (!SCHOOL.matcher(page).matches()) {
                return STATE;
            }
            become(new Model());
            for (String child : page.split(",")) {
                Kid kid = Kid.of(child.charAt(0));
                kid.slip = Integer.parseInt(child.substring(1));
                kids.add(kid);
            }
            page = "";
            kept = null;
            read++;
            return kids.size();
        }

        int child(int child, int what) {
            if (knowsNo(child)) {
                return UNKNOWN;
            }
            Kid kid = kids.get(child);
            switch (what) {
                case 0: return kid.kind();
                case 1: return kid.slip;
                case 2: return kid.knows == null ? NONE : kid.knows;
                case 3: return kid.ill ? 1 : 0;
                case 4: return kid.ill || kid.knows == null ? NONE : kid.teaches(kid.slip, kid.knows);
                case 5: return bits(slipsOf(child));
                case 6: return ask(child);
                default: return OUTSIDE;
            }
        }

        Set<Integer> slipsOf(int child) {
            Set<Integer> slips = new HashSet<>(List.of(0, 1, 2, 3, 4, 5, 6, 7, 8, 9));
            for (int[] h : heard) {
                if (h[0] == child) {
                    slips.removeIf(slip -> kids.get(child).teaches(slip, h[1]) != h[2]);
                }
            }
            return slips;
        }

        int ask(int child) {
            Set<Integer> slips = slipsOf(child);
            int best = NONE;
            int least = Integer.MAX_VALUE;
            for (int rule = 11; rule >= 0 && !slips.isEmpty(); rule--) {
                Map<Integer, Integer> left = new HashMap<>();
                int worst = 0;
                for (int slip : slips) {
                    worst = Math.max(worst, left.merge(kids.get(child).teaches(slip, rule), 1, Integer::sum));
                }
                if (worst <= least) {
                    least = worst;
                    best = rule;
                }
            }
            return best;
        }

        static int bits(Set<Integer> numbers) {
            int bits = 0;
            for (int number : numbers) {
                bits += 1 << number;
            }
            return bits;
        }

        int as(int child, int kind) {
            if (knowsNo(child)) {
                return UNKNOWN;
            }
            if (kind < 0 || kind > 4) {
                return OUTSIDE;
            }
            return KINDS.get(kind).isInstance(kids.get(child)) ? child : NONE;
        }

        int refusal(int child, int rule) {
            return knowsNo(child) ? UNKNOWN : rule < 0 || rule > 11 ? OUTSIDE : 0;
        }

        int teaches(int child, int rule) {
            int refusal = refusal(child, rule);
            return refusal < 0 ? refusal : kids.get(child).teaches(kids.get(child).slip, rule);
        }

        int tell(int child, int rule) {
            int refusal = refusal(child, rule);
            if (refusal < 0) {
                return refusal;
            }
            int knew = child(child, 2);
            kids.get(child).knows = rule;
            return knew;
        }

        int ill(int child, boolean is) {
            if (knowsNo(child)) {
                return UNKNOWN;
            }
            int was = child(child, 3);
            kids.get(child).ill = is;
            return was;
        }

        int slip(int child, int slip) {
            if (knowsNo(child)) {
                return UNKNOWN;
            }
            if (slip < 0 || slip > 9) {
                return OUTSIDE;
            }
            int was = kids.get(child).slip;
            kids.get(child).slip = slip;
            return was;
        }

        int thursday() {
            if (kids.isEmpty()) {
                return STATE;
            }
            Map<Integer, Integer> lessons = new HashMap<>();
            for (int i = 0; i + 1 < kids.size(); i++) {
                if (child(i, 4) != NONE && !kids.get(i + 1).ill) {
                    lessons.put(i + 1, child(i, 4));
                }
            }
            lessons.forEach((child, rule) -> kids.get(child).knows = rule);
            thursdays++;
            taught += lessons.size();
            return lessons.size();
        }

        /** A school of the same children, all well, of whom one alone knows: so many Thursdays on. */
        int arrives(int child, int rule) {
            int refusal = refusal(child, rule);
            if (refusal < 0) {
                return refusal;
            }
            Model alone = copy();
            for (Kid kid : alone.kids) {
                kid.ill = false;
                kid.knows = null;
            }
            alone.kids.get(child).knows = rule;
            for (int i = child; i < kids.size() - 1; i++) {
                alone.thursday();
            }
            return alone.top().knows;
        }

        int from(int child, int rule) {
            int refusal = refusal(child, rule);
            if (refusal < 0) {
                return refusal;
            }
            Set<Integer> rules = new HashSet<>();
            for (int r = 0; r < 12; r++) {
                if (arrives(child, r) == rule) {
                    rules.add(r);
                }
            }
            return bits(rules);
        }

        int soon() {
            if (kids.isEmpty()) {
                return STATE;
            }
            Model would = copy();
            for (int i = 0; i < 10; i++) {
                if (would.top().knows != null) {
                    return i;
                }
                would.thursday();
            }
            return NONE;
        }

        int cure(int what) {
            if (what != 0 && what != 1) {
                return OUTSIDE;
            }
            if (kids.isEmpty()) {
                return STATE;
            }
            int most = count(6);
            int whose = NONE;
            for (int i = 0; i < kids.size(); i++) {
                Model cured = copy();
                cured.kids.get(i).slip = 0;
                if (cured.count(6) > most) {
                    most = cured.count(6);
                    whose = i;
                }
            }
            return what == 0 ? whose : most;
        }

        int hear(int child, int knew, int taughtRule) {
            int refusal = refusal(child, knew);
            if (refusal < 0 || taughtRule < 0 || taughtRule > 11) {
                return refusal < 0 ? refusal : OUTSIDE;
            }
            if (heard.size() == 8) {
                return FULL;
            }
            heard.add(new int[] {child, knew, taughtRule});
            return heard.size();
        }

        int forget() {
            int was = heard.size();
            heard.clear();
            return was;
        }

        int terms(int weeks, int from, int what) {
            if (weeks < 1 || weeks > 60 || from < 0 || what < 0 || what > 2) {
                return OUTSIDE;
            }
            if (kids.isEmpty()) {
                return STATE;
            }
            Model would = copy();
            int often = 0;
            int s = from;
            for (int i = 0; i < weeks; i++) {
                s = nextSeed(s);
                would.tell(0, s / 65536 % 12);
                s = nextSeed(s);
                int illNow = s / 65536 % (kids.size() + 1);
                for (int k = 0; k < kids.size(); k++) {
                    would.ill(k, k == illNow);
                }
                boolean isTop = !would.top().ill && would.child(kids.size() - 2, 4) != NONE;
                often += isTop ? 1 : 0;
                would.thursday();
            }
            return what == 0 ? often : what == 1 ? would.child(kids.size() - 1, 2) + 1 : s;
        }

        static int nextSeed(int s) {
            return BigInteger.valueOf(1103515245).multiply(BigInteger.valueOf(s)).add(BigInteger.valueOf(12345))
                .mod(BigInteger.TWO.pow(31)).intValueExact();
        }

        int image() {
            if (kids.isEmpty()) {
                return STATE;
            }
            kept = copy();
            return thursdays;
        }

        int restore() {
            if (kept == null) {
                return STATE;
            }
            become(kept);
            return thursdays;
        }

        int count(int what) {
            Set<Integer> rules = new HashSet<>();
            int knowing = 0;
            int ill = 0;
            int same = 0;
            for (Kid kid : kids) {
                knowing += kid.knows == null ? 0 : 1;
                ill += kid.ill ? 1 : 0;
                if (kid.knows != null) {
                    rules.add(kid.knows);
                }
            }
            for (int rule = 0; rule < 12 && what == 6; rule++) {
                same += arrives(0, rule) == rule ? 1 : 0;
            }
            int[] counts = {kids.size(), knowing, rules.size(), ill, thursdays, taught, same, heard.size(),
                page.length(), read};
            return what < 0 || what >= counts.length ? OUTSIDE : counts[what];
        }

        long digest() {
            List<Integer> numbers = new ArrayList<>();
            for (int i = 0; i < kids.size(); i++) {
                for (int what = 0; what < 7; what++) {
                    numbers.add(child(i, what));
                }
                for (int rule : new int[] {0, 1, 5}) {
                    numbers.add(arrives(i, rule));
                }
                numbers.add(from(i, 3));
            }
            if (!kids.isEmpty()) {
                numbers.addAll(List.of(soon(), cure(0), cure(1)));
            }
            page.chars().forEach(numbers::add);
            for (int what = 0; what < 10; what++) {
                numbers.add(count(what));
            }
            long h = 1039;
            for (int number : numbers) {
                h = h * 31 + number;
            }
            return h;
        }
    }
}
