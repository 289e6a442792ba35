import java.math.BigInteger;
import java.util.ArrayList;
import java.util.List;
import java.util.function.ToLongFunction;

/** Each sentence of the document that names a boundary, by a test of its own; a fault is told with the sentence. */
public final class BoundariesTest {
    private static final int NONE = -1, UNKNOWN = -101, OUTSIDE = -102, STATE = -103, FULL = -104;
    private static final int ALL_SLIPS = 1023;
    private static final String LETTERS = "cptme", SIX = "c3,t7,m5,e2,p1,c8", FULL_PAGE = "c3,t7,m5,e2,p1,c8,zz";
    private static final int[] NO_CHILD_OF_SIX = {Integer.MIN_VALUE, -2, -1, 6, 7, Integer.MAX_VALUE};
    private static final int[] NO_RULE = {Integer.MIN_VALUE, -2, -1, 12, 13, Integer.MAX_VALUE};

    private static int wrong = 0;
    private static int told = 0;
    private static String sentence = "";

    public static void main(String[] args) {
        schoolAsAText();
        kindsAndThursdays();
        numbersThatNameNothing();
        pageAndSchool();
        children();
        rulesAndThursdays();
        whatWouldBe();
        heard();
        termsBySeed();
        imageAndRestore();
        counts();
        digests();
        refusals();
        System.out.println(wrong == 0 ? told + " answers are as due" : wrong + " answers are not as due");
        if (wrong != 0) {
            System.exit(1);
        }
    }

    private static void sentence(String words) {
        sentence = words;
    }

    private static void due(String call, long got, long want) {
        told++;
        if (got != want) {
            wrong++;
            System.out.println("\"" + sentence + "\": " + call + " answered " + got + ", due is " + want);
        }
    }

    private static void write(ThursdayRungs x, String text) {
        for (int i = 0; i < text.length(); i++) {
            x.letter(text.charAt(i));
        }
    }

    private static ThursdayRungs page(String text) {
        ThursdayRungs x = new ThursdayRungs();
        write(x, text);
        return x;
    }

    private static ThursdayRungs of(String text) {
        ThursdayRungs x = page(text);
        due(text + " school()", x.school(), (text.length() + 1) / 3);
        return x;
    }

    private static void thursdays(ThursdayRungs x, int many) {
        for (int i = 0; i < many; i++) {
            x.thursday();
        }
    }

    private static int ahead(int rule) {
        return rule == 11 ? 0 : rule + 1;
    }

    private static int back(int rule) {
        return rule == 0 ? 11 : rule - 1;
    }

    private static int ahead(int rule, int many) {
        int at = rule;
        for (int i = 0; i < many; i++) {
            at = ahead(at);
        }
        return at;
    }

    private static int back(int rule, int many) {
        int at = rule;
        for (int i = 0; i < many; i++) {
            at = back(at);
        }
        return at;
    }

    // ---- What it is, Terms: the school's text, the kinds

    private static void schoolAsAText() {
        twoToSixChildren();
        commaBetween();
        aLetterAndADigit();
        sentence("numbered from 0, the youngest one; the last one is the TOP");
        ThursdayRungs x = of("p0,t1,m2,e3,c4,p5");
        int[] kinds = {1, 2, 3, 4, 0, 1};
        for (int i = 0; i < 6; i++) {
            due("child(" + i + ", 0)", x.child(i, 0), kinds[i]);
            due("child(" + i + ", 1)", x.child(i, 1), i);
        }
        due("arrives at the TOP", x.arrives(5, 7), 7);
        sentence("An object is used for at most 512 calls");
        ThursdayRungs used = of("c1,c1");
        used.tell(0, 11);
        thursdays(used, 503);
        due("the 511th call: count(4)", used.count(4), 503);
        due("the 512th call: count(5)", used.count(5), 503);
        sentence("NONE = -1, UNKNOWN = -101, OUTSIDE = -102, STATE = -103, FULL = -104");
        int[] numbers = {ThursdayRungs.NONE, ThursdayRungs.UNKNOWN, ThursdayRungs.OUTSIDE, ThursdayRungs.STATE,
            ThursdayRungs.FULL};
        int[] wanted = {NONE, UNKNOWN, OUTSIDE, STATE, FULL};
        for (int i = 0; i < 5; i++) {
            due("constant " + i, numbers[i], wanted[i]);
        }
        sentence("At first there is none");
        due("count(0)", new ThursdayRungs().count(0), 0);
        due("child(0, 0)", new ThursdayRungs().child(0, 0), UNKNOWN);
    }

    private static void twoToSixChildren() {
        sentence("two to six CHILDREN");
        due("none", page("").school(), STATE);
        due("one", page("c1").school(), STATE);
        due("two", page("c1,p2").school(), 2);
        due("three", page("c1,p2,t3").school(), 3);
        due("four", page("c1,p2,t3,m4").school(), 4);
        due("five", page("c1,p2,t3,m4,e5").school(), 5);
        due("six", page("c1,p2,t3,m4,e5,c6").school(), 6);
        due("seven", page("c1,p2,t3,m4,e5,c6,p7").school(), STATE);
    }

    private static void commaBetween() {
        sentence("with ',' between");
        String[] none = {",c1,p2", "c1,p2,", "c1,,p2", "c1p2", "c1;p2", "c,1,p2", "c1 p2", "c1, p2", " c1,p2",
            "c1,p2 "};
        for (String text : none) {
            due(text, page(text).school(), STATE);
        }
    }

    private static void aLetterAndADigit() {
        for (int code = 1; code <= 126; code++) {
            sentence("each a letter, the KIND");
            due("code " + code, page(text("", code)).fault(), LETTERS.indexOf(code) >= 0 ? 1 : 0);
            due("later code " + code, page(text("c0,", code)).fault(), LETTERS.indexOf(code) >= 0 ? 4 : 3);
            sentence("and a digit, the SLIP (0 to 9)");
            due("code " + code, page(text("c", code)).fault(), code >= 48 && code <= 57 ? 2 : 1);
            due("later code " + code, page(text("c0,e", code)).fault(), code >= 48 && code <= 57 ? 5 : 4);
        }
        for (int slip = 0; slip <= 9; slip++) {
            ThursdayRungs x = of("p" + slip + ",c" + (9 - slip));
            due("slip " + slip, x.child(0, 1), slip);
            due("slip " + (9 - slip), x.child(1, 1), 9 - slip);
        }
    }

    private static String text(String ahead, int code) {
        return ahead + (char) code;
    }

    // ---- Terms: rules and Thursdays

    private static void kindsAndThursdays() {
        sentence("All are CHILDREN; an ECHO is a PARROT, too");
        ThursdayRungs x = of("c0,p0,t0,m0,e0");
        for (int child = 0; child < 5; child++) {
            for (int kind = 0; kind < 5; kind++) {
                boolean is = kind == 0 || kind == child || child == 4 && kind == 1;
                due("as(" + child + ", " + kind + ")", x.as(child, kind), is ? child : NONE);
            }
        }
        ThursdayRungs five = of("c0,p0,t0,m0,e0");
        for (int slip = 0; slip <= 9; slip++) {
            for (int child = 0; child < 5; child++) {
                five.slip(child, slip);
            }
            for (int rule = 0; rule < 12; rule++) {
                teachesByKinds(five, slip, rule);
            }
        }
        onAThursday();
    }

    private static void teachesByKinds(ThursdayRungs x, int slip, int rule) {
        String how = "slip " + slip + ", rule " + rule;
        sentence("behind 11 comes 0 again");
        due(how, x.teaches(0, rule), ahead(rule, slip));
        sentence("a PARROT the same; nor does that of a PARROT");
        due(how, x.teaches(1, rule), rule);
        sentence("as far on from 0 as its SLIP, less the RULE (11 comes ahead of 0)");
        due(how, x.teaches(2, rule), back(ahead(0, slip), rule));
        sentence("the greatest even one that is not above it, by its SLIP farther on");
        due(how, x.teaches(3, rule), ahead(rule % 2 == 0 ? rule : back(rule), slip));
        sentence("twice as far on from 0 as the RULE (its SLIP does nothing)");
        due(how, x.teaches(4, rule), ahead(ahead(0, rule), rule));
    }

    private static void onAThursday() {
        sentence("all at once, by what they knew ahead of it");
        ThursdayRungs x = of("p0,p0,p0,p0,p0,p0");
        for (int i = 0; i < 6; i++) {
            x.tell(i, 11 - i);
        }
        due("thursday()", x.thursday(), 5);
        int[] known = {11, 11, 10, 9, 8, 7};
        for (int i = 0; i < 6; i++) {
            due("child(" + i + ", 2)", x.child(i, 2), known[i]);
        }
        sentence("Who is ILL neither TEACHES nor is taught");
        for (int ill = 0; ill < 6; ill++) {
            oneIsIll(ill);
        }
        for (int i = 0; i < 6; i++) {
            x.ill(i, true);
        }
        due("all are ILL: thursday()", x.thursday(), 0);
        for (int i = 0; i < 6; i++) {
            due("all are ILL: child(" + i + ", 2)", x.child(i, 2), known[i]);
        }
        sentence("At first nobody knows anything, nobody is ILL");
        ThursdayRungs y = of(SIX);
        for (int i = 0; i < 6; i++) {
            due("child(" + i + ", 2)", y.child(i, 2), NONE);
            due("child(" + i + ", 3)", y.child(i, 3), 0);
        }
    }

    /** All know the rule of their number; two rungs are broken, or one if the ill one is at an end. */
    private static void oneIsIll(int ill) {
        ThursdayRungs x = of("c1,c1,c1,c1,c1,c1");
        for (int i = 0; i < 6; i++) {
            x.tell(i, 2 * i);
        }
        x.ill(ill, true);
        due("thursday() with " + ill, x.thursday(), ill == 0 || ill == 5 ? 4 : 3);
        for (int i = 0; i < 6; i++) {
            boolean isTaught = i > 0 && i != ill && i - 1 != ill;
            due("child(" + i + ", 2) with " + ill, x.child(i, 2), isTaught ? 2 * i - 1 : 2 * i);
        }
    }

    // ---- Terms: refusals that are told of all

    private static void numbersThatNameNothing() {
        sentence("UNKNOWN (a number names nothing)");
        ThursdayRungs none = new ThursdayRungs();
        for (int child : new int[] {Integer.MIN_VALUE, -1, 0, 1, Integer.MAX_VALUE}) {
            childIsUnknown(none, child);
        }
        ThursdayRungs two = of("c1,p2");
        for (int child : new int[] {Integer.MIN_VALUE, -1, 2, 3, 5, 6, Integer.MAX_VALUE}) {
            childIsUnknown(two, child);
        }
        ThursdayRungs six = of(SIX);
        for (int child : NO_CHILD_OF_SIX) {
            childIsUnknown(six, child);
        }
        sentence("another one is gone: its children, too");
        ThursdayRungs fewer = of(SIX);
        write(fewer, "c1,p2");
        due("school()", fewer.school(), 2);
        childIsUnknown(fewer, 2);
        childIsUnknown(fewer, 5);
    }

    /** UNKNOWN is told first by each call that takes a child: the other number is wrong, too, every second time. */
    private static void childIsUnknown(ThursdayRungs x, int child) {
        for (int number : new int[] {0, 99}) {
            String with = "(" + child + ", " + number + ")";
            due("child" + with, x.child(child, number), UNKNOWN);
            due("as" + with, x.as(child, number), UNKNOWN);
            due("teaches" + with, x.teaches(child, number), UNKNOWN);
            due("tell" + with, x.tell(child, number), UNKNOWN);
            due("slip" + with, x.slip(child, number), UNKNOWN);
            due("arrives" + with, x.arrives(child, number), UNKNOWN);
            due("from" + with, x.from(child, number), UNKNOWN);
            due("hear" + with, x.hear(child, number, 0), UNKNOWN);
            due("hear" + with, x.hear(child, 0, number), UNKNOWN);
            due("ill" + with, x.ill(child, number == 0), UNKNOWN);
        }
    }

    // ---- Promises 1 to 5

    private static void pageAndSchool() {
        sentence("1: No SCHOOL");
        ThursdayRungs x = new ThursdayRungs();
        for (int what = 0; what <= 9; what++) {
            due("count(" + what + ")", x.count(what), 0);
        }
        due("thursday()", x.thursday(), STATE);
        letters();
        blanks();
        faults();
        schools();
    }

    private static void letters() {
        sentence("2: how many THE PAGE has; FULL: above 20");
        ThursdayRungs x = new ThursdayRungs();
        for (int i = 1; i <= 20; i++) {
            due("letter() no. " + i, x.letter(i), i);
        }
        due("letter() no. 21", x.letter('c'), FULL);
        due("letter() no. 22", x.letter('c'), FULL);
        due("count(8)", x.count(8), 20);
        x.blank();
        due("letter() behind blank()", x.letter('c'), 1);
        ThursdayRungs y = of(SIX);
        due("letter() behind school()", y.letter('c'), 1);
        write(y, FULL_PAGE.substring(1));
        due("letter() no. 21 with a SCHOOL", y.letter('c'), FULL);
        sentence("2: OUTSIDE: code (1 to 126)");
        ThursdayRungs z = new ThursdayRungs();
        int[] outside = {Integer.MIN_VALUE, -1, 0, 127, 128, 255, 256 + 'c', 65536 + 'c', Integer.MAX_VALUE};
        for (int code : outside) {
            due("letter(" + code + ")", z.letter(code), OUTSIDE);
        }
        due("letter(1)", z.letter(1), 1);
        due("letter(126)", z.letter(126), 2);
        sentence("2: OUTSIDE ahead of FULL");
        write(z, FULL_PAGE);
        due("letter(0)", z.letter(0), OUTSIDE);
        due("letter(127)", z.letter(127), OUTSIDE);
        due("letter(126)", z.letter(126), FULL);
    }

    private static void blanks() {
        sentence("3: THE PAGE is empty: how many letters it had");
        ThursdayRungs x = new ThursdayRungs();
        due("blank() of an empty page", x.blank(), 0);
        x.letter('c');
        due("blank() of one", x.blank(), 1);
        due("blank() again", x.blank(), 0);
        write(x, FULL_PAGE);
        due("blank() of a full page", x.blank(), 20);
        due("count(8)", x.count(8), 0);
        due("fault()", x.fault(), 0);
        write(x, "c1,p2");
        due("school() behind it", x.school(), 2);
        due("blank() behind school()", x.blank(), 0);
    }

    private static void faults() {
        sentence("4: how many letters it has, if there is none");
        for (int letters = 0; letters <= SIX.length(); letters++) {
            due("the first " + letters, page(SIX.substring(0, letters)).fault(), letters);
        }
        sentence("4: The place (from 0) of the first letter that no SCHOOL has there");
        for (int place = 0; place < SIX.length(); place++) {
            StringBuilder text = new StringBuilder(SIX);
            text.setCharAt(place, '?');
            due(text.toString(), page(text.toString()).fault(), place);
        }
        due("the first of two", page("c1,?2,?3").fault(), 3);
        for (int code = 1; code <= 126; code++) {
            due("behind a child, code " + code, page(text("c0", code)).fault(), code == ',' ? 3 : 2);
            due("behind six children, code " + code, page(text(SIX, code)).fault(), 17);
        }
        due("a full page", page(FULL_PAGE).fault(), 17);
        due("seven children", page("c1,c1,c1,c1,c1,c1,c1").fault(), 17);
        sentence("4: a SCHOOL that was read does not matter");
        ThursdayRungs x = of(SIX);
        due("of an empty page", x.fault(), 0);
        x.letter('c');
        due("of one", x.fault(), 1);
    }

    private static void schools() {
        sentence("5: STATE: it is none");
        for (int letters = 0; letters < 20; letters++) {
            String text = FULL_PAGE.substring(0, letters);
            boolean is = letters == 5 || letters == 8 || letters == 11 || letters == 14 || letters == 17;
            ThursdayRungs x = page(text);
            due(text + " school()", x.school(), is ? (letters + 1) / 3 : STATE);
            due(text + " count(8)", x.count(8), is ? 0 : letters);
            due(text + " count(9)", x.count(9), is ? 1 : 0);
        }
        due("a full page", page(FULL_PAGE).school(), STATE);
        sentence("5: THE PAGE is empty then");
        ThursdayRungs x = of("c1,p2");
        due("count(8)", x.count(8), 0);
        due("school() again", x.school(), STATE);
        due("count(0)", x.count(0), 2);
        anotherIsGone();
    }

    private static void anotherIsGone() {
        sentence("5: another one is gone, with all that was");
        ThursdayRungs x = busy();
        x.blank();
        write(x, "m0,e9");
        due("school()", x.school(), 2);
        for (int i = 0; i < 2; i++) {
            due("child(" + i + ", 2)", x.child(i, 2), NONE);
            due("child(" + i + ", 3)", x.child(i, 3), 0);
            due("child(" + i + ", 5)", x.child(i, 5), ALL_SLIPS);
        }
        // a mumbler of slip 0 alone keeps the six even rules
        int[] counts = {2, 0, 0, 0, 0, 0, 6, 0, 0, 2};
        for (int what = 0; what <= 9; what++) {
            due("count(" + what + ")", x.count(what), counts[what]);
        }
        due("restore()", x.restore(), STATE);
        due("hear()", x.hear(0, 0, 0), 1);
        sentence("5: the same text is another SCHOOL, too");
        ThursdayRungs same = busy();
        same.blank();
        write(same, SIX);
        due("school()", same.school(), 6);
        due("digest()", same.digest(), twiceRead().digest());
        due("restore()", same.restore(), STATE);
    }

    private static ThursdayRungs twiceRead() {
        ThursdayRungs x = of(SIX);
        write(x, SIX);
        due("school()", x.school(), 6);
        return x;
    }

    // ---- Promises 6 to 8

    private static void children() {
        sentence("6: OUTSIDE: what (0 to 6)");
        ThursdayRungs x = of(SIX);
        for (int what : new int[] {Integer.MIN_VALUE, -2, -1, 7, 8, Integer.MAX_VALUE}) {
            due("child(0, " + what + ")", x.child(0, what), OUTSIDE);
            due("child(5, " + what + ")", x.child(5, what), OUTSIDE);
        }
        sentence("6: 2 which RULE it knows (NONE)");
        due("child(0, 2)", x.child(0, 2), NONE);
        for (int rule = 0; rule < 12; rule++) {
            x.tell(0, rule);
            due("child(0, 2)", x.child(0, 2), rule);
        }
        sentence("6: 3 whether it is ILL (1, 0)");
        due("child(0, 3)", x.child(0, 3), 0);
        x.ill(0, true);
        due("child(0, 3)", x.child(0, 3), 1);
        due("child(1, 3)", x.child(1, 3), 0);
        teachesNow();
        sentence("7: the number of the CHILD (not of a KIND); OUTSIDE: kind (0 to 4)");
        due("as(1, 2)", x.as(1, 2), 1);
        due("as(2, 3)", x.as(2, 3), 2);
        due("as(3, 1)", x.as(3, 1), 3);
        due("as(5, 0)", x.as(5, 0), 5);
        for (int kind : new int[] {Integer.MIN_VALUE, -2, -1, 5, 6, Integer.MAX_VALUE}) {
            due("as(3, " + kind + ")", x.as(3, kind), OUTSIDE);
        }
        sentence("7: NONE: it is none such");
        due("as(4, 4)", x.as(4, 4), NONE);
        due("as(0, 1)", x.as(0, 1), NONE);
        sentence("8: OUTSIDE: rule (0 to 11)");
        for (int rule : NO_RULE) {
            for (int child = 0; child < 6; child++) {
                due("teaches(" + child + ", " + rule + ")", x.teaches(child, rule), OUTSIDE);
            }
        }
    }

    private static void teachesNow() {
        sentence("6: 4 what it would TEACH now, the TOP, too (NONE: it knows none, or is ILL)");
        ThursdayRungs x = of("c9,t0");
        for (int child = 0; child < 2; child++) {
            due("it knows none", x.child(child, 4), NONE);
            x.ill(child, true);
            due("nor is it well", x.child(child, 4), NONE);
            x.tell(child, 11);
            due("it is ILL", x.child(child, 4), NONE);
            x.ill(child, false);
        }
        due("child(0, 4)", x.child(0, 4), 8);
        due("the TOP, too", x.child(1, 4), 1);
        x.tell(1, 0);
        due("RULE 0 is known", x.child(1, 4), 0);
    }

    // ---- Promises 9 to 12

    private static void rulesAndThursdays() {
        sentence("9: which it knew (NONE); ILL or not");
        ThursdayRungs x = of("c9,t0");
        due("tell(1, 0)", x.tell(1, 0), NONE);
        due("tell(1, 11)", x.tell(1, 11), 0);
        x.ill(1, true);
        due("tell(1, 5)", x.tell(1, 5), 11);
        due("child(1, 2)", x.child(1, 2), 5);
        due("child(0, 2)", x.child(0, 2), NONE);
        sentence("9: OUTSIDE: rule (0 to 11)");
        for (int rule : NO_RULE) {
            due("tell(1, " + rule + ")", x.tell(1, rule), OUTSIDE);
        }
        due("child(1, 2)", x.child(1, 2), 5);
        sentence("10: whether it was (1, 0)");
        due("ill(0, false)", x.ill(0, false), 0);
        due("ill(0, true)", x.ill(0, true), 0);
        due("ill(0, true)", x.ill(0, true), 1);
        due("ill(0, false)", x.ill(0, false), 1);
        due("ill(0, false)", x.ill(0, false), 0);
        due("count(3)", x.count(3), 1);
        sentence("11: how much it was; OUTSIDE: slip (0 to 9)");
        for (int slip : new int[] {Integer.MIN_VALUE, -2, -1, 10, 11, Integer.MAX_VALUE}) {
            due("slip(0, " + slip + ")", x.slip(0, slip), OUTSIDE);
        }
        due("slip(0, 0)", x.slip(0, 0), 9);
        due("slip(0, 9)", x.slip(0, 9), 0);
        due("slip(1, 9)", x.slip(1, 9), 0);
        due("child(0, 1)", x.child(0, 1), 9);
        thursdayCounts();
    }

    private static void thursdayCounts() {
        sentence("12: STATE: no SCHOOL");
        due("thursday()", new ThursdayRungs().thursday(), STATE);
        due("with a page", page(SIX).thursday(), STATE);
        sentence("12: how many were taught");
        ThursdayRungs x = of("c9,c9,c9");
        due("nobody", x.thursday(), 0);
        x.tell(2, 5);
        due("the TOP teaches nobody", x.thursday(), 0);
        x.tell(0, 11);
        due("one", x.thursday(), 1);
        due("behind 11", x.child(1, 2), 8);
        due("two", x.thursday(), 2);
        due("behind 11", x.child(2, 2), 5);
        due("the same once more is taught, too", x.thursday(), 2);
        due("count(4)", x.count(4), 5);
        due("count(5)", x.count(5), 5);
    }

    // ---- Promises 13 to 16

    private static void whatWouldBe() {
        ThursdayRungs x = of(SIX);
        sentence("13, 14: OUTSIDE: rule (0 to 11)");
        for (int rule : NO_RULE) {
            for (int child = 0; child < 6; child++) {
                due("arrives(" + child + ", " + rule + ")", x.arrives(child, rule), OUTSIDE);
                due("from(" + child + ", " + rule + ")", x.from(child, rule), OUTSIDE);
            }
        }
        for (int ill = -1; ill < 6; ill++) {
            if (ill >= 0) {
                x.ill(ill, true);
            }
            arrivesByTeaching(x);
        }
        sentence("14: as bits, the least and the greatest RULE");
        ThursdayRungs parrots = of("p0,p0");
        due("from(0, 0)", parrots.from(0, 0), 1);
        due("from(0, 11)", parrots.from(0, 11), 2048);
        sentence("14: of none there are no bits");
        due("from(0, 1)", of("e0,p0").from(0, 1), 0);
        due("from(0, 0)", of("m1,p0").from(0, 0), 0);
        soons();
        cures();
    }

    private static void arrivesByTeaching(ThursdayRungs x) {
        for (int child = 0; child < 6; child++) {
            int[] bits = new int[12];
            for (int rule = 0; rule < 12; rule++) {
                int at = rule;
                for (int i = child; i < 5; i++) {
                    at = x.teaches(i, at);
                }
                sentence("ARRIVES: rung by rung (ILLNESS does not matter)");
                due("arrives(" + child + ", " + rule + ")", x.arrives(child, rule), at);
                bits[at] |= 1 << rule;
            }
            sentence("FROM a CHILD: which RULES, known by it, ARRIVE at the TOP as a RULE");
            due("from(" + child + ", 0)", x.from(child, 0), bits[0]);
            due("from(" + child + ", 6)", x.from(child, 6), bits[6]);
            due("from(" + child + ", 11)", x.from(child, 11), bits[11]);
        }
    }

    private static void soons() {
        sentence("15: STATE: no SCHOOL");
        due("soon()", new ThursdayRungs().soon(), STATE);
        due("with a page", page(SIX).soon(), STATE);
        sentence("SOON: none, if it never does");
        due("nobody knows", of(SIX).soon(), NONE);
        for (int knows = 0; knows < 6; knows++) {
            sentence("SOON: on how few THURSDAYS from now (0: it does now)");
            ThursdayRungs x = of(SIX);
            x.tell(knows, 0);
            due(knows + " knows", x.soon(), 5 - knows);
            sentence("SOON: all as ILL as now");
            for (int ill = 0; ill < 6; ill++) {
                x.ill(ill, true);
                due(knows + " knows, ILL is " + ill, x.soon(), knows == 5 ? 0 : ill < knows ? 5 - knows : NONE);
                x.ill(ill, false);
            }
        }
        sentence("SOON: the nearest one who knows is ILL, another one is not");
        ThursdayRungs y = of("c0,c0,c0");
        y.tell(0, 0);
        y.tell(1, 0);
        due("both well", y.soon(), 1);
        y.ill(1, true);
        due("the nearest ILL", y.soon(), NONE);
        y.ill(0, true);
        y.ill(1, false);
        due("the other ILL", y.soon(), 1);
    }

    private static void cures() {
        sentence("16: OUTSIDE: what (0, 1), ahead of STATE: no SCHOOL");
        ThursdayRungs none = new ThursdayRungs();
        ThursdayRungs x = of(SIX);
        for (int what : new int[] {Integer.MIN_VALUE, -1, 2, 3, Integer.MAX_VALUE}) {
            due("cure(" + what + ") without a SCHOOL", none.cure(what), OUTSIDE);
            due("cure(" + what + ")", x.cure(what), OUTSIDE);
        }
        sentence("16: STATE: no SCHOOL");
        due("cure(0)", none.cure(0), STATE);
        due("cure(1)", none.cure(1), STATE);
        sentence("CURE: nobody's, if by none they are more than now: all, some, or none ARRIVE now");
        cure("c0,p9,c9", NONE, 12);
        cure("m1,p0", NONE, 6);
        cure("c1,c1,p0", NONE, 0);
        // a twin's rules arrive as they are where twice the rule is the slip: two of an even slip, by 0 too
        cure("t2,p0", NONE, 2);
        sentence("CURE: as many as can be");
        cure("t1,p0", 0, 2);
        cure("m2,p0", 0, 6);
        cure("c3,p0,m1", 0, 12);
        cure("c0,c5,c9", 1, 12);
        sentence("CURE: of like ones the least");
        cure("t1,c1,t1,c0", 0, 12);
        // 1 - r, then 2 - r, then r - 1: child 1 or child 2 would mend it
        cure("c0,t1,c1,t1,c0", 1, 12);
        sentence("CURE: a slip that does nothing (a PARROT's, an ECHO's, the TOP's) is nobody's");
        cure("p9,e9,c9", NONE, 1);
        cure("c5,e9,c9", NONE, 1);
    }

    private static void cure(String text, int whose, int many) {
        ThursdayRungs x = of(text);
        long before = x.digest();
        due(text + " cure(0)", x.cure(0), whose);
        due(text + " cure(1)", x.cure(1), many);
        due(text + " digest()", x.digest(), before);
        if (whose == NONE) {
            due(text + " as now", x.count(6), many);
        } else {
            x.slip(whose, 0);
            due(text + " when its SLIP is 0", x.count(6), many);
        }
    }

    // ---- Promises 6 (SLIPS, ASK), 17 and 18

    private static void heard() {
        sentence("17: OUTSIDE: knew, taught (0 to 11)");
        ThursdayRungs x = of(SIX);
        for (int rule : NO_RULE) {
            due("hear(0, " + rule + ", 0)", x.hear(0, rule, 0), OUTSIDE);
            due("hear(5, 0, " + rule + ")", x.hear(5, 0, rule), OUTSIDE);
        }
        due("hear(0, 0, 0)", x.hear(0, 0, 0), 1);
        due("hear(5, 11, 11)", x.hear(5, 11, 11), 2);
        eightAtMost();
        slipsItCanHave();
        sentence("18: Nothing is HEARD any more: how much was");
        due("forget() without a SCHOOL", new ThursdayRungs().forget(), 0);
        due("forget()", x.forget(), 2);
        due("forget() again", x.forget(), 0);
        due("child(0, 5)", x.child(0, 5), ALL_SLIPS);
        due("count(7)", x.count(7), 0);
        asks();
    }

    private static void eightAtMost() {
        sentence("HEARD (8 at most); 17: FULL");
        ThursdayRungs x = of(SIX);
        for (int i = 1; i <= 8; i++) {
            due("hear() no. " + i, x.hear(i % 6, 0, i), i);
        }
        for (int child = 0; child < 6; child++) {
            due("hear(" + child + ") no. 9", x.hear(child, 0, 0), FULL);
        }
        due("count(7)", x.count(7), 8);
        due("one's own two are kept", x.child(1, 5), 0);
        sentence("17: UNKNOWN, OUTSIDE ahead of FULL");
        due("hear(6, 12, 12)", x.hear(6, 12, 12), UNKNOWN);
        due("hear(0, 12, 0)", x.hear(0, 12, 0), OUTSIDE);
        due("hear(0, 0, 12)", x.hear(0, 0, 12), OUTSIDE);
        due("forget()", x.forget(), 8);
        due("hear() behind forget()", x.hear(0, 0, 0), 1);
        sentence("HEARD: the same twice is two");
        due("hear()", x.hear(0, 0, 0), 2);
        due("child(0, 5)", x.child(0, 5), 1);
    }

    private static void slipsItCanHave() {
        ThursdayRungs x = of("c5,p5,t5,m5,e5");
        for (int knew = 0; knew < 12; knew++) {
            for (int taught = 0; taught < 12; taught++) {
                slipsBy(x, knew, taught);
            }
        }
        sentence("SLIPS: all that is HEARD of it is so; of another one does not matter");
        ThursdayRungs y = of("c5,c5");
        y.hear(0, 0, 9);
        y.hear(0, 11, 8);
        due("child(0, 5)", y.child(0, 5), 512);
        due("child(1, 5)", y.child(1, 5), ALL_SLIPS);
        y.hear(0, 0, 8);
        due("child(0, 5)", y.child(0, 5), 0);
        sentence("SLIPS: the SLIP that it has does not matter");
        y.forget();
        y.hear(0, 0, 9);
        y.slip(0, 1);
        due("child(0, 5)", y.child(0, 5), 512);
    }

    private static void slipsBy(ThursdayRungs x, int knew, int taught) {
        int[] bits = new int[5];
        for (int slip = 0; slip <= 9; slip++) {
            for (int child = 0; child < 5; child++) {
                bits[child] |= BoundariesTest.taught(child, slip, knew) == taught ? 1 << slip : 0;
            }
        }
        x.forget();
        for (int child = 0; child < 5; child++) {
            x.hear(child, knew, taught);
        }
        ThursdayRungs y = of("c0,p0,t0,m0,e0");
        for (int child = 0; child < 5; child++) {
            y.hear(child, knew, taught);
            sentence("SLIPS (0 to 9) it can have, by its KIND");
            due(knew + " to " + taught + ": child(" + child + ", 5)", y.child(child, 5), bits[child]);
            sentence("ASK: of like ones the least; none, if there are none");
            due(knew + " to " + taught + ": child(" + child + ", 6)", y.child(child, 6), bits[child] == 0 ? NONE : 0);
        }
    }

    private static int taught(int kind, int slip, int rule) {
        switch (kind) {
            case 1: return rule;
            case 2: return back(ahead(0, slip), rule);
            case 3: return ahead(rule % 2 == 0 ? rule : back(rule), slip);
            case 4: return ahead(rule, rule);
            default: return ahead(rule, slip);
        }
    }

    private static void asks() {
        sentence("ASK: fewest left at worst: of like ones the least");
        ThursdayRungs x = of("c5,p5,t5,m5,e5");
        for (int child = 0; child < 5; child++) {
            due("all are left: child(" + child + ", 6)", x.child(child, 6), 0);
        }
        sentence("ASK: none, if there are none");
        for (int child = 0; child < 5; child++) {
            x.hear(child, 0, 11);
            due("child(" + child + ", 5)", x.child(child, 5), 0);
            due("child(" + child + ", 6)", x.child(child, 6), NONE);
        }
        x.forget();
        due("forgotten: child(0, 6)", x.child(0, 6), 0);
    }

    // ---- Promise 19

    private static void termsBySeed() {
        sentence("19: OUTSIDE: thursdays (1 to 60), seed (0 at least), what, ahead of STATE: no SCHOOL");
        termsOutside(new ThursdayRungs());
        termsOutside(of("c0,c0"));
        sentence("19: STATE: no SCHOOL");
        for (int what = 0; what <= 2; what++) {
            due("terms(1, 0, " + what + ")", new ThursdayRungs().terms(1, 0, what), STATE);
            due("terms(60, greatest)", new ThursdayRungs().terms(60, Integer.MAX_VALUE, what), STATE);
        }
        oneThursday();
        twoThursdays();
        seeds();
        asTheyWouldBe();
    }

    private static void termsOutside(ThursdayRungs x) {
        for (int far : new int[] {Integer.MIN_VALUE, -1, 0, 61, 62, Integer.MAX_VALUE}) {
            due("terms(" + far + ", 0, 0)", x.terms(far, 0, 0), OUTSIDE);
        }
        for (int far : new int[] {Integer.MIN_VALUE, -2, -1}) {
            due("terms(1, " + far + ", 0)", x.terms(1, far, 0), OUTSIDE);
        }
        for (int far : new int[] {Integer.MIN_VALUE, -1, 3, 4, Integer.MAX_VALUE}) {
            due("terms(1, 0, " + far + ")", x.terms(1, 0, far), OUTSIDE);
        }
    }

    /** In a school of two; the seeds were looked for by their two draws: the rule, and who is ill. */
    private static void oneThursday() {
        sentence("TERMS: who is ILL by a DRAW of 1 more than there are CHILDREN (the greatest: nobody)");
        termsOfOne(0, 0, 0);
        termsOfOne(32, 0, 0);
        termsOfOne(9, 0, 0);
        termsOfOne(4, 0, 0);
        termsOfOne(17, 0, 0);
        sentence("TERMS: which RULE it knows in the end, and 1 (0: none): the least and the greatest RULE");
        termsOfOne(47, 1, 1);
        termsOfOne(18, 1, 6);
        termsOfOne(50, 1, 12);
        sentence("TERMS: the greatest of six is 6");
        ThursdayRungs six = of("c0,c0,c0,c0,c0,c0");
        six.tell(4, 11);
        due("terms(1, 0, 0)", six.terms(1, 0, 0), 1);
        due("terms(1, 0, 1)", six.terms(1, 0, 1), 12);
    }

    private static void termsOfOne(int seed, int often, int which) {
        ThursdayRungs x = of("c0,c0");
        due("terms(1, " + seed + ", 0)", x.terms(1, seed, 0), often);
        due("terms(1, " + seed + ", 1)", x.terms(1, seed, 1), which);
    }

    private static void twoThursdays() {
        sentence("TERMS: who is ILL is so no more");
        // child 0 is ill first, then nobody; RULES 11, 9
        termsOfTwo(3, 1, 10);
        // nobody, then child 0; RULES 4, 8
        termsOfTwo(7, 1, 5);
        // nobody, then the TOP; RULES 10, 2
        termsOfTwo(8, 1, 11);
        // nobody twice; RULES 8, 3
        termsOfTwo(2, 2, 4);
        // the TOP, then child 0; RULES 5, 3
        termsOfTwo(4, 0, 0);
        ThursdayRungs ill = of("c0,c0");
        ill.ill(0, true);
        ill.ill(1, true);
        due("both were ILL: terms(1, 47, 0)", ill.terms(1, 47, 0), 1);
        due("both were ILL: terms(1, 47, 1)", ill.terms(1, 47, 1), 1);
    }

    private static void termsOfTwo(int seed, int often, int which) {
        ThursdayRungs x = of("c0,c0");
        due("terms(2, " + seed + ", 0)", x.terms(2, seed, 0), often);
        due("terms(2, " + seed + ", 1)", x.terms(2, seed, 1), which);
    }

    private static void seeds() {
        sentence("DRAWS: the next SEED each time, its rest by 2 to the 31");
        int[] seeds = {0, 1, 2, 65535, 65536, 1 << 30, Integer.MAX_VALUE - 1, Integer.MAX_VALUE};
        ThursdayRungs x = of("c0,c0");
        for (int seed : seeds) {
            for (int thursdays : new int[] {1, 2, 59, 60}) {
                due("terms(" + thursdays + ", " + seed + ", 2)", x.terms(thursdays, seed, 2), after(seed, thursdays));
            }
        }
        due("terms(1, 0, 2)", x.terms(1, 0, 2), 1406932606);
        due("terms(1, greatest, 2)", x.terms(1, Integer.MAX_VALUE, 2), 288979989);
    }

    /** Two draws a Thursday. */
    private static long after(int seed, int thursdays) {
        BigInteger at = BigInteger.valueOf(seed);
        for (int i = 0; i < 2 * thursdays; i++) {
            at = at.multiply(BigInteger.valueOf(1103515245)).add(BigInteger.valueOf(12345))
                .mod(BigInteger.ONE.shiftLeft(31));
        }
        return at.longValueExact();
    }

    private static void asTheyWouldBe() {
        sentence("TERMS by a SEED, as they would be");
        ThursdayRungs x = busy();
        long before = x.digest();
        for (int what = 0; what <= 2; what++) {
            int answer = x.terms(60, 99, what);
            due("terms(60, 99, " + what + ") again", x.terms(60, 99, what), answer);
        }
        due("digest()", x.digest(), before);
        due("the image is none of it", x.restore(), 1);
        sentence("TERMS: from what is known now");
        ThursdayRungs known = of("c0,c0");
        known.tell(1, 0);
        due("terms(1, 0, 1)", known.terms(1, 0, 1), 1);
        due("terms(1, 0, 0)", known.terms(1, 0, 0), 0);
        known.tell(1, 11);
        due("terms(1, 0, 1)", known.terms(1, 0, 1), 12);
        sentence("TERMS: as a KIND TEACHES, by its SLIP: 11 comes ahead of 0");
        // seed 50 tells RULE 11, and nobody is ill
        due("a TWIN of 0: terms(1, 50, 1)", of("t0,c0").terms(1, 50, 1), 2);
        due("a CHILD of 9: terms(1, 50, 1)", of("c9,c0").terms(1, 50, 1), 9);
        due("a MUMBLER of 9: terms(1, 50, 1)", of("m9,c0").terms(1, 50, 1), 8);
        due("an ECHO of 9: terms(1, 50, 1)", of("e9,c0").terms(1, 50, 1), 11);
        sentence("TERMS: ahead of each CHILD 0 is told the RULE, in place of what it knew");
        known.tell(0, 7);
        due("terms(1, 50, 1)", known.terms(1, 50, 1), 12);
        due("terms(1, 47, 1)", known.terms(1, 47, 1), 1);
        due("child(0, 2)", known.child(0, 2), 7);
    }

    // ---- Promises 20 and 21

    private static void imageAndRestore() {
        sentence("20: STATE: no SCHOOL");
        ThursdayRungs none = page("c1,c1");
        due("image()", none.image(), STATE);
        due("restore()", none.restore(), STATE);
        sentence("21: STATE: none was kept");
        due("school()", none.school(), 2);
        due("restore()", none.restore(), STATE);
        sentence("20: how many THURSDAYS there were");
        due("image()", none.image(), 0);
        none.thursday();
        due("image()", none.image(), 1);
        sentence("20: one; the latest");
        none.thursday();
        due("restore()", none.restore(), 1);
        due("count(4)", none.count(4), 1);
        due("restore() again", none.restore(), 1);
        imageKeeps();
        anotherSchoolSince();
        sentence("An IMAGE of what is FULL");
        ThursdayRungs full = busy();
        full.forget();
        full.restore();
        due("hear()", full.hear(0, 0, 0), FULL);
        due("count(7)", full.count(7), 8);
        imageKeepsEachThatIsHeard();
    }

    /** Only one of the eight tells a SLIP, so that it shows if that one is lost or mixed up. */
    private static void imageKeepsEachThatIsHeard() {
        sentence("An IMAGE keeps HEARD (8 at most), from the first one to the last");
        for (int telling = 0; telling < 8; telling++) {
            ThursdayRungs x = of("c1,p2,t3");
            for (int i = 0; i < 8; i++) {
                due("hear()", i == telling ? x.hear(2, 4, 0) : x.hear(1, i, i), i + 1);
            }
            due("image()", x.image(), 0);
            x.forget();
            for (int i = 0; i < 8; i++) {
                x.hear(0, 11, 11);
            }
            due("restore() with number " + telling + " telling", x.restore(), 0);
            due("child(0, 5)", x.child(0, 5), ALL_SLIPS);
            due("child(1, 5)", x.child(1, 5), ALL_SLIPS);
            due("child(2, 5)", x.child(2, 5), 1 << 4);
            due("count(7)", x.count(7), 8);
        }
    }

    private static void imageKeeps() {
        List<ToLongFunction<ThursdayRungs>> changes = List.of(
            x -> x.tell(0, 9), x -> x.tell(5, 0), x -> x.ill(0, true), x -> x.ill(2, false), x -> x.slip(0, 0),
            x -> x.slip(5, 0), x -> x.thursday(), x -> x.forget(), BoundariesTest::hearOther);
        for (int i = 0; i < changes.size(); i++) {
            sentence("An IMAGE keeps what all know, who is ILL, SLIPS, THURSDAYS, how often any was taught, HEARD");
            ThursdayRungs x = busy();
            x.restore();
            x.blank();
            long kept = x.digest();
            changes.get(i).applyAsLong(x);
            due("change " + i + " changes", x.digest() == kept ? 1 : 0, 0);
            due("restore() of change " + i, x.restore(), 1);
            due("digest() of change " + i, x.digest(), kept);
            sentence("It goes on from the IMAGE, which stays as it was");
            changes.get(i).applyAsLong(x);
            due("restore() of change " + i, x.restore(), 1);
            due("digest() of change " + i, x.digest(), kept);
        }
        sentence("An IMAGE keeps nothing of THE PAGE, nor how often a SCHOOL was read");
        ThursdayRungs x = of("c1,p2");
        write(x, "t3,m4");
        x.school();
        x.letter('c');
        x.image();
        x.letter('3');
        x.restore();
        due("count(8)", x.count(8), 2);
        due("count(9)", x.count(9), 2);
        x.blank();
        x.restore();
        due("count(8)", x.count(8), 0);
    }

    /** The same number is heard, but not the same. */
    private static long hearOther(ThursdayRungs x) {
        x.forget();
        for (int i = 0; i < 8; i++) {
            x.hear(5 - i % 6, 11 - i, i + 1);
        }
        return 0;
    }

    private static void anotherSchoolSince() {
        sentence("21: STATE: there is another SCHOOL since");
        ThursdayRungs x = of("c1,c1");
        x.image();
        write(x, "c1,c1,c1");
        due("it is not read yet: restore()", x.restore(), 0);
        x.school();
        due("restore()", x.restore(), STATE);
        due("count(0)", x.count(0), 3);
        due("image()", x.image(), 0);
        due("restore()", x.restore(), 0);
        sentence("21: a SCHOOL that was refused is none");
        write(x, "c1,c1,");
        due("school()", x.school(), STATE);
        due("restore()", x.restore(), 0);
        x.blank();
        due("school()", x.school(), STATE);
        due("restore()", x.restore(), 0);
    }

    // ---- Promises 22 and 23

    private static void counts() {
        sentence("22: OUTSIDE: what (0 to 9)");
        ThursdayRungs none = new ThursdayRungs();
        ThursdayRungs x = of(SIX);
        for (int what : new int[] {Integer.MIN_VALUE, -2, -1, 10, 11, Integer.MAX_VALUE}) {
            due("count(" + what + ") without a SCHOOL", none.count(what), OUTSIDE);
            due("count(" + what + ")", x.count(what), OUTSIDE);
        }
        sentence("22: 1 that know a RULE, 2 unlike RULES that are known");
        for (int i = 0; i < 6; i++) {
            x.tell(i, 0);
            due("count(1)", x.count(1), i + 1);
            due("count(2)", x.count(2), 1);
        }
        for (int i = 0; i < 6; i++) {
            x.tell(i, 11 - i);
            due("count(2) of RULES down from 11", x.count(2), i == 5 ? 6 : i + 2);
        }
        sentence("22: 3 that are ILL");
        for (int i = 0; i < 6; i++) {
            x.ill(i, true);
            due("count(3)", x.count(3), i + 1);
        }
        sentence("22: 6 RULES that, known by CHILD 0, ARRIVE at the TOP as they are (0: no SCHOOL)");
        due("no SCHOOL", none.count(6), 0);
        due("with a page", page(SIX).count(6), 0);
        due("all", of("p0,p0").count(6), 12);
        due("none", of("c1,p0").count(6), 0);
        due("the TOP teaches nobody", of("p0,c1").count(6), 12);
        sentence("22: 9 how often a SCHOOL was read");
        ThursdayRungs read = new ThursdayRungs();
        for (int i = 1; i <= 3; i++) {
            write(read, "c1,c1");
            read.school();
            read.school();
            due("count(9)", read.count(9), i);
        }
    }

    private static void digests() {
        sentence("23: h is 1039, then 31 times h, and it");
        long ofNew = 1039;
        for (int i = 0; i < 10; i++) {
            ofNew *= 31;
        }
        due("of a new object", new ThursdayRungs().digest(), ofNew);
        sentence("23: with a SCHOOL SOON, what cure() tells");
        due("of an empty page", new ThursdayRungs().digest(), byNumbers(new ThursdayRungs(), ""));
        due("of a full page", page(FULL_PAGE).digest(), byNumbers(page(FULL_PAGE), FULL_PAGE));
        due("of two", of("c1,p2").digest(), byNumbers(of("c1,p2"), ""));
        sentence("23: as longs, wrapping");
        due("of all that is full", busy().digest(), byNumbers(busy(), FULL_PAGE));
    }

    /** The numbers by the calls themselves, taken together without a wrap, and wrapped in the end. */
    private static long byNumbers(ThursdayRungs x, String page) {
        List<Integer> numbers = new ArrayList<>();
        for (int i = 0; i < x.count(0); i++) {
            for (int what = 0; what <= 6; what++) {
                numbers.add(x.child(i, what));
            }
            numbers.addAll(List.of(x.arrives(i, 0), x.arrives(i, 1), x.arrives(i, 5), x.from(i, 3)));
        }
        if (x.count(0) > 0) {
            numbers.addAll(List.of(x.soon(), x.cure(0), x.cure(1)));
        }
        for (char letter : page.toCharArray()) {
            numbers.add((int) letter);
        }
        for (int what = 0; what <= 9; what++) {
            numbers.add(x.count(what));
        }
        BigInteger h = BigInteger.valueOf(1039);
        for (int number : numbers) {
            h = h.multiply(BigInteger.valueOf(31)).add(BigInteger.valueOf(number));
        }
        return h.longValue();
    }

    // ---- Refusals: they change nothing

    private record Refusal(String call, ToLongFunction<ThursdayRungs> of, int want) {
    }

    /** Full of all there can be: the page, what is heard, an image that is not how it is now. */
    private static ThursdayRungs busy() {
        ThursdayRungs x = of(SIX);
        x.tell(0, 4);
        x.tell(4, 11);
        x.ill(2, true);
        x.thursday();
        for (int i = 0; i < 8; i++) {
            x.hear(i % 6, i, i + 3);
        }
        x.image();
        x.tell(1, 0);
        x.ill(3, true);
        x.slip(4, 9);
        x.thursday();
        write(x, FULL_PAGE);
        return x;
    }

    private static void refusals() {
        sentence("Refusals: they change nothing");
        List<Refusal> ofAny = List.of(
            new Refusal("letter(0)", x -> x.letter(0), OUTSIDE),
            new Refusal("letter(127)", x -> x.letter(127), OUTSIDE),
            new Refusal("school()", x -> x.school(), STATE),
            new Refusal("child(6, 0)", x -> x.child(6, 0), UNKNOWN),
            new Refusal("as(6, 0)", x -> x.as(6, 0), UNKNOWN),
            new Refusal("tell(6, 0)", x -> x.tell(6, 0), UNKNOWN),
            new Refusal("tell(-1, 0)", x -> x.tell(-1, 0), UNKNOWN),
            new Refusal("ill(6, true)", x -> x.ill(6, true), UNKNOWN),
            new Refusal("slip(6, 0)", x -> x.slip(6, 0), UNKNOWN),
            new Refusal("hear(6, 0, 0)", x -> x.hear(6, 0, 0), UNKNOWN),
            new Refusal("cure(2)", x -> x.cure(2), OUTSIDE),
            new Refusal("terms(0, 0, 0)", x -> x.terms(0, 0, 0), OUTSIDE),
            new Refusal("terms(1, -1, 0)", x -> x.terms(1, -1, 0), OUTSIDE),
            new Refusal("count(10)", x -> x.count(10), OUTSIDE));
        List<Refusal> ofNone = List.of(
            new Refusal("thursday()", x -> x.thursday(), STATE),
            new Refusal("soon()", x -> x.soon(), STATE),
            new Refusal("cure(0)", x -> x.cure(0), STATE),
            new Refusal("terms(1, 0, 0)", x -> x.terms(1, 0, 0), STATE),
            new Refusal("image()", x -> x.image(), STATE),
            new Refusal("restore()", x -> x.restore(), STATE));
        List<Refusal> ofBusy = List.of(
            new Refusal("letter('c')", x -> x.letter('c'), FULL),
            new Refusal("hear(0, 0, 0)", x -> x.hear(0, 0, 0), FULL),
            new Refusal("hear(0, 12, 0)", x -> x.hear(0, 12, 0), OUTSIDE),
            new Refusal("hear(0, 0, 12)", x -> x.hear(0, 0, 12), OUTSIDE),
            new Refusal("tell(0, 12)", x -> x.tell(0, 12), OUTSIDE),
            new Refusal("slip(0, 10)", x -> x.slip(0, 10), OUTSIDE),
            new Refusal("child(0, 7)", x -> x.child(0, 7), OUTSIDE),
            new Refusal("as(0, 5)", x -> x.as(0, 5), OUTSIDE),
            new Refusal("from(0, 12)", x -> x.from(0, 12), OUTSIDE));
        for (Refusal refusal : ofAny) {
            refusedByNone(refusal);
            refusedByBusy(refusal);
        }
        for (Refusal refusal : ofNone) {
            refusedByNone(refusal);
        }
        for (Refusal refusal : ofBusy) {
            refusedByBusy(refusal);
        }
    }

    private static void refusedByNone(Refusal refusal) {
        ThursdayRungs x = page("c1,p");
        long before = x.digest();
        due(refusal.call + " without a SCHOOL", refusal.of.applyAsLong(x), refusal.want);
        due("digest() behind " + refusal.call, x.digest(), before);
        due("the page goes on behind " + refusal.call, x.letter('2'), 5);
        due("school() behind " + refusal.call, x.school(), 2);
    }

    private static void refusedByBusy(Refusal refusal) {
        ThursdayRungs x = busy();
        ThursdayRungs like = busy();
        due(refusal.call, refusal.of.applyAsLong(x), refusal.want);
        due("digest() behind " + refusal.call, x.digest(), like.digest());
        due("thursday() behind " + refusal.call, x.thursday(), like.thursday());
        due("restore() behind " + refusal.call, x.restore(), 1);
        like.restore();
        due("the image behind " + refusal.call, x.digest(), like.digest());
    }
}
