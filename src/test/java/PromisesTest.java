/** Each promise of the document by answers worked out by hand: ordinary inputs, edges, wrong inputs. */
public final class PromisesTest {
    private static final int NONE = -1, UNKNOWN = -101, OUTSIDE = -102, STATE = -103, FULL = -104;
    private static final int[] FAR = {Integer.MIN_VALUE, -1, Integer.MAX_VALUE};

    private static int wrong = 0;

    private static void due(String call, long got, long want) {
        if (got != want) {
            wrong++;
            System.out.println(call + " answered " + got + ", due is " + want);
        }
    }

    public static void main(String[] args) {
        constants();
        newObject();
        letter();
        blank();
        fault();
        school();
        schoolIsGoneWithAllThatWas();
        child();
        as();
        teaches();
        tell();
        ill();
        slip();
        thursday();
        arrives();
        from();
        soon();
        cure();
        hear();
        slipsAndAsk();
        forget();
        terms();
        imageAndRestore();
        count();
        digest();
        refusalsChangeNothing();
        exampleOfReadme();
        System.out.println(wrong == 0 ? "all answers are as due" : wrong + " answers are not as due");
        if (wrong != 0) {
            System.exit(1);
        }
    }

    private static ThursdayRungs page(String text) {
        ThursdayRungs x = new ThursdayRungs();
        write(x, text);
        return x;
    }

    private static void write(ThursdayRungs x, String text) {
        for (int i = 0; i < text.length(); i++) {
            x.letter(text.charAt(i));
        }
    }

    private static ThursdayRungs of(String text) {
        ThursdayRungs x = page(text);
        due(text + " school()", x.school(), (text.length() + 1) / 3);
        return x;
    }

    private static void constants() {
        due("NONE", ThursdayRungs.NONE, NONE);
        due("UNKNOWN", ThursdayRungs.UNKNOWN, UNKNOWN);
        due("OUTSIDE", ThursdayRungs.OUTSIDE, OUTSIDE);
        due("STATE", ThursdayRungs.STATE, STATE);
        due("FULL", ThursdayRungs.FULL, FULL);
    }

    private static void newObject() {
        ThursdayRungs x = new ThursdayRungs();
        for (int what = 0; what <= 9; what++) {
            due("1 count(" + what + ")", x.count(what), 0);
        }
        due("1 child", x.child(0, 0), UNKNOWN);
        due("1 as", x.as(0, 0), UNKNOWN);
        due("1 teaches", x.teaches(0, 0), UNKNOWN);
        due("1 tell", x.tell(0, 0), UNKNOWN);
        due("1 ill", x.ill(0, true), UNKNOWN);
        due("1 slip", x.slip(0, 0), UNKNOWN);
        due("1 arrives", x.arrives(0, 0), UNKNOWN);
        due("1 from", x.from(0, 0), UNKNOWN);
        due("1 hear", x.hear(0, 0, 0), UNKNOWN);
        due("1 school", x.school(), STATE);
        due("1 thursday", x.thursday(), STATE);
        due("1 soon", x.soon(), STATE);
        due("1 cure", x.cure(0), STATE);
        due("1 cure", x.cure(1), STATE);
        due("1 cure, OUTSIDE first", x.cure(2), OUTSIDE);
        due("1 terms", x.terms(1, 0, 0), STATE);
        due("1 terms, OUTSIDE first", x.terms(0, 0, 0), OUTSIDE);
        due("1 image", x.image(), STATE);
        due("1 restore", x.restore(), STATE);
        due("1 forget", x.forget(), 0);
        due("1 blank", x.blank(), 0);
        due("1 fault", x.fault(), 0);
    }

    private static void letter() {
        ThursdayRungs x = new ThursdayRungs();
        due("2 letter(1)", x.letter(1), 1);
        due("2 letter(126)", x.letter(126), 2);
        due("2 letter(0)", x.letter(0), OUTSIDE);
        due("2 letter(127)", x.letter(127), OUTSIDE);
        for (int code : FAR) {
            due("2 letter far", x.letter(code), OUTSIDE);
        }
        // 65536 + 'c' must not be taken for a 'c'
        due("2 letter wide", x.letter(65536 + 'c'), OUTSIDE);
        for (int i = 3; i <= 20; i++) {
            due("2 letter to 20", x.letter('c'), i);
        }
        due("2 letter above 20", x.letter('c'), FULL);
        due("2 OUTSIDE ahead of FULL", x.letter(0), OUTSIDE);
        due("2 still 20", x.count(8), 20);
        due("2 fault of a full page", x.fault(), 0);
        x.blank();
        due("2 letter behind blank", x.letter('c'), 1);
        due("2 page starts anew", x.fault(), 1);
    }

    private static void blank() {
        ThursdayRungs x = page("c3,t");
        due("3 blank", x.blank(), 4);
        due("3 count(8)", x.count(8), 0);
        due("3 blank again", x.blank(), 0);
        ThursdayRungs y = of("c3,t7");
        write(y, "zz");
        due("3 blank with a school", y.blank(), 2);
        due("3 the school stays", y.count(0), 2);
    }

    private static void fault() {
        fault("", 0);
        fault("c", 1);
        fault("p9", 2);
        fault("c3,", 3);
        fault("c3,t", 4);
        fault("c3,t7", 5);
        fault("m0,e9,p5", 8);
        fault("x", 0);
        fault("C3", 0);
        fault("3c", 0);
        fault(",", 0);
        fault("cc", 1);
        fault("c/", 1);
        fault("c:", 1);
        fault("c33", 2);
        fault("c3;t7", 2);
        fault("c3,,", 3);
        fault("c3,x7,x", 3);
        fault("c3,t7,m5,e2,p1,c8", 17);
        fault("c3,t7,m5,e2,p1,c8,", 17);
        fault("c3,t7,m5,e2,p1,c8,c0", 17);
        fault("c3,t7,m5,e2,p1,c88", 17);
    }

    private static void fault(String text, int want) {
        ThursdayRungs x = page(text);
        due("4 fault() of " + text, x.fault(), want);
        due("4 page stays", x.count(8), text.length());
    }

    private static void school() {
        String[] none = {"", "c", "c3", "c3,", "c3,t", "c3,t7,", "c3,t7,m", "x3,t7", "c3 t7", "C3,T7",
            "c3,t7,m5,e2,p1,c8,", "c3,t7,m5,e2,p1,c8,c0"};
        for (String text : none) {
            ThursdayRungs x = page(text);
            due("5 school() of " + text, x.school(), STATE);
            due("5 page stays", x.count(8), text.length());
            due("5 none is read", x.count(9), 0);
        }
        ThursdayRungs x = of("c3,t7");
        due("5 page is empty", x.count(8), 0);
        due("5 read", x.count(9), 1);
        due("5 empty page", x.school(), STATE);
        due("5 school stays", x.count(0), 2);
        of("c3,t7,m5,e2,p1,c8");
    }

    private static void schoolIsGoneWithAllThatWas() {
        ThursdayRungs x = of("c3,t7,m5");
        x.tell(0, 4);
        x.tell(2, 4);
        due("5 one is taught", x.thursday(), 1);
        x.ill(1, true);
        x.ill(2, true);
        x.hear(0, 1, 2);
        x.image();
        write(x, "p1,e2");
        due("5 another school", x.school(), 2);
        for (int i = 0; i < 2; i++) {
            due("5 knows nothing", x.child(i, 2), NONE);
            due("5 nobody ill", x.child(i, 3), 0);
            due("5 nothing heard", x.child(i, 5), 1023);
        }
        due("5 kind", x.child(1, 0), 4);
        due("5 slip", x.child(1, 1), 2);
        int[] counts = {2, 0, 0, 0, 0, 0, 12, 0, 0, 2};
        for (int what = 0; what <= 9; what++) {
            due("5 count(" + what + ")", x.count(what), counts[what]);
        }
        due("5 no such child", x.child(2, 0), UNKNOWN);
        due("5 image is gone", x.restore(), STATE);
    }

    private static void child() {
        ThursdayRungs x = of("c3,p1,t7,m5,e2,c0");
        int[] kinds = {0, 1, 2, 3, 4, 0};
        int[] slips = {3, 1, 7, 5, 2, 0};
        for (int i = 0; i < 6; i++) {
            due("6 kind", x.child(i, 0), kinds[i]);
            due("6 slip", x.child(i, 1), slips[i]);
            due("6 knows", x.child(i, 2), NONE);
            due("6 ill", x.child(i, 3), 0);
            due("6 teaches now", x.child(i, 4), NONE);
            due("6 slips", x.child(i, 5), 1023);
            due("6 ask", x.child(i, 6), 0);
        }
        x.tell(3, 7);
        due("6 knows", x.child(3, 2), 7);
        due("6 mumbles now", x.child(3, 4), 11);
        x.ill(3, true);
        due("6 ill", x.child(3, 3), 1);
        due("6 the ill one teaches nothing", x.child(3, 4), NONE);
        due("6 the ill one knows", x.child(3, 2), 7);
        x.tell(5, 11);
        due("6 the top would teach, too", x.child(5, 4), 11);
        due("6 UNKNOWN", x.child(6, 0), UNKNOWN);
        due("6 UNKNOWN first", x.child(6, 7), UNKNOWN);
        due("6 OUTSIDE", x.child(5, 7), OUTSIDE);
        for (int far : FAR) {
            due("6 far child", x.child(far, 0), UNKNOWN);
            due("6 far what", x.child(0, far), OUTSIDE);
        }
    }

    private static void as() {
        ThursdayRungs x = of("c3,p1,t7,m5,e2");
        boolean[][] is = {
            {true, false, false, false, false},
            {true, true, false, false, false},
            {true, false, true, false, false},
            {true, false, false, true, false},
            {true, true, false, false, true},
        };
        for (int child = 0; child < 5; child++) {
            for (int kind = 0; kind < 5; kind++) {
                due("7 as(" + child + ", " + kind + ")", x.as(child, kind), is[child][kind] ? child : NONE);
            }
        }
        due("7 UNKNOWN first", x.as(5, 5), UNKNOWN);
        due("7 OUTSIDE", x.as(0, 5), OUTSIDE);
        for (int far : FAR) {
            due("7 far child", x.as(far, 0), UNKNOWN);
            due("7 far kind", x.as(0, far), OUTSIDE);
        }
    }

    private static void teaches() {
        ThursdayRungs x = of("c9,p9,t9,m9,e9,t0");
        int[][] taught = {
            {9, 10, 11, 0, 1, 2, 3, 4, 5, 6, 7, 8},
            {0, 1, 2, 3, 4, 5, 6, 7, 8, 9, 10, 11},
            {9, 8, 7, 6, 5, 4, 3, 2, 1, 0, 11, 10},
            {9, 9, 11, 11, 1, 1, 3, 3, 5, 5, 7, 7},
            {0, 2, 4, 6, 8, 10, 0, 2, 4, 6, 8, 10},
            {0, 11, 10, 9, 8, 7, 6, 5, 4, 3, 2, 1},
        };
        for (int child = 0; child < 6; child++) {
            for (int rule = 0; rule < 12; rule++) {
                due("8 teaches(" + child + ", " + rule + ")", x.teaches(child, rule), taught[child][rule]);
            }
        }
        x.ill(0, true);
        due("8 illness does not matter", x.teaches(0, 0), 9);
        due("8 UNKNOWN first", x.teaches(6, 12), UNKNOWN);
        due("8 OUTSIDE", x.teaches(5, 12), OUTSIDE);
        for (int far : FAR) {
            due("8 far child", x.teaches(far, 0), UNKNOWN);
            due("8 far rule", x.teaches(0, far), OUTSIDE);
        }
    }

    private static void tell() {
        ThursdayRungs x = of("c3,t7");
        due("9 tell", x.tell(0, 11), NONE);
        due("9 tell again", x.tell(0, 0), 11);
        x.ill(1, true);
        due("9 tell an ill one", x.tell(1, 4), NONE);
        due("9 it knows", x.child(1, 2), 4);
        due("9 UNKNOWN first", x.tell(2, 12), UNKNOWN);
        due("9 OUTSIDE", x.tell(1, 12), OUTSIDE);
        for (int far : FAR) {
            due("9 far child", x.tell(far, 0), UNKNOWN);
            due("9 far rule", x.tell(0, far), OUTSIDE);
        }
        due("9 refusals change nothing", x.child(0, 2), 0);
    }

    private static void ill() {
        ThursdayRungs x = of("c3,t7");
        due("10 ill", x.ill(0, true), 0);
        due("10 still", x.ill(0, true), 1);
        due("10 count", x.count(3), 1);
        due("10 well", x.ill(0, false), 1);
        due("10 still well", x.ill(0, false), 0);
        due("10 count", x.count(3), 0);
        due("10 UNKNOWN", x.ill(2, true), UNKNOWN);
        for (int far : FAR) {
            due("10 far child", x.ill(far, true), UNKNOWN);
        }
        due("10 nobody", x.count(3), 0);
    }

    private static void slip() {
        ThursdayRungs x = of("c3,t7");
        due("11 slip", x.slip(0, 9), 3);
        due("11 slip", x.slip(0, 0), 9);
        due("11 teaches by it", x.teaches(0, 5), 5);
        due("11 UNKNOWN first", x.slip(2, 10), UNKNOWN);
        due("11 OUTSIDE", x.slip(1, 10), OUTSIDE);
        for (int far : FAR) {
            due("11 far child", x.slip(far, 0), UNKNOWN);
            due("11 far slip", x.slip(1, far), OUTSIDE);
        }
        due("11 stays", x.child(1, 1), 7);
    }

    private static void thursday() {
        ThursdayRungs x = of("c1,c1,c1,c1");
        due("12 nobody knows", x.thursday(), 0);
        x.tell(0, 0);
        due("12 a rung", x.thursday(), 1);
        due("12 taught", x.child(1, 2), 1);
        due("12 no farther yet", x.child(2, 2), NONE);
        due("12 the teacher knows on", x.child(0, 2), 0);
        x.tell(0, 5);
        due("12 all at once", x.thursday(), 2);
        due("12 in place of what it knew", x.child(1, 2), 6);
        due("12 by what was known ahead", x.child(2, 2), 2);
        x.ill(2, true);
        due("12 the ill one is not taught", x.thursday(), 1);
        due("12 nor forgets", x.child(2, 2), 2);
        due("12 nor teaches", x.child(3, 2), NONE);
        x.ill(2, false);
        due("12 three", x.thursday(), 3);
        due("12 the top", x.child(3, 2), 3);
        due("12 Thursdays", x.count(4), 5);
        due("12 taught in all", x.count(5), 7);
    }

    private static void arrives() {
        ThursdayRungs x = of("c3,t7,m5,e2,p1,c8");
        // 0: 3, then 7 - 3 = 4, then 4 + 5 = 9, then twice 9, 18, is 6, then 6
        due("13 arrives(0, 0)", x.arrives(0, 0), 6);
        // 11: 14 is 2, then 5, then 4 + 5 = 9, then 6
        due("13 arrives(0, 11)", x.arrives(0, 11), 6);
        due("13 arrives(1, 0)", x.arrives(1, 0), 10);
        due("13 arrives(2, 7)", x.arrives(2, 7), 10);
        due("13 arrives(3, 7)", x.arrives(3, 7), 2);
        due("13 arrives(4, 7)", x.arrives(4, 7), 7);
        due("13 from the top", x.arrives(5, 7), 7);
        x.ill(3, true);
        due("13 illness does not matter", x.arrives(0, 0), 6);
        due("13 UNKNOWN first", x.arrives(6, 12), UNKNOWN);
        due("13 OUTSIDE", x.arrives(5, 12), OUTSIDE);
        for (int far : FAR) {
            due("13 far child", x.arrives(far, 0), UNKNOWN);
            due("13 far rule", x.arrives(0, far), OUTSIDE);
        }
    }

    private static void from() {
        ThursdayRungs x = of("m1,e0,c9");
        // 0, 1: 1, 2; 2, 3: 3, 6; 4, 5: 5, 10; 6, 7: 7, 2; 8, 9: 9, 6; 10, 11: 11, 10
        due("14 from(0, 2)", x.from(0, 2), 0b11000011);
        due("14 from(0, 6)", x.from(0, 6), 0b1100001100);
        due("14 from(0, 10)", x.from(0, 10), 0b110000110000);
        due("14 none", x.from(0, 3), 0);
        due("14 from(1, 0)", x.from(1, 0), 0b1000001);
        due("14 from the top", x.from(2, 11), 1 << 11);
        x.tell(0, 2);
        due("14 what it knows does not matter", x.from(0, 2), 0b11000011);
        x.ill(1, true);
        due("14 illness does not matter", x.from(0, 2), 0b11000011);
        due("14 UNKNOWN first", x.from(3, 12), UNKNOWN);
        due("14 OUTSIDE", x.from(2, 12), OUTSIDE);
        for (int far : FAR) {
            due("14 far child", x.from(far, 0), UNKNOWN);
            due("14 far rule", x.from(0, far), OUTSIDE);
        }
    }

    private static void soon() {
        ThursdayRungs x = of("c1,c1,c1,c1");
        due("15 never", x.soon(), NONE);
        x.tell(0, 0);
        due("15 three", x.soon(), 3);
        x.tell(2, 0);
        due("15 the nearest one", x.soon(), 1);
        x.ill(0, true);
        due("15 one behind does not matter", x.soon(), 1);
        x.ill(2, true);
        due("15 the ill one does not teach", x.soon(), NONE);
        x.ill(2, false);
        x.ill(3, true);
        due("15 the ill top is not taught", x.soon(), NONE);
        x.tell(3, 0);
        due("15 it knows now, ill as it is", x.soon(), 0);
        ThursdayRungs y = of("c1,c1,c1");
        y.tell(0, 0);
        y.ill(1, true);
        due("15 broken rung", y.soon(), NONE);
        y.ill(1, false);
        y.ill(0, true);
        due("15 the ill one who knows", y.soon(), NONE);
        due("15 it would be only", y.count(4), 0);
    }

    private static void cure() {
        ThursdayRungs x = of("c0,c4,c9");
        due("16 whose", x.cure(0), 1);
        due("16 how many", x.cure(1), 12);
        due("16 slips stay", x.child(1, 1), 4);
        ThursdayRungs all = of("c0,p4,c9");
        due("16 nobody's", all.cure(0), NONE);
        due("16 as now", all.cure(1), 12);
        // each alone leaves the other's slip: no rule arrives as it is
        ThursdayRungs two = of("c5,c4,c0");
        due("16 nobody's", two.cure(0), NONE);
        due("16 none", two.cure(1), 0);
        // 1 - (1 - r + 1) is r - 1; without any one of the three slips it is r, but for the last twin's
        ThursdayRungs like = of("t1,c1,t1,c0");
        due("16 none now", like.count(6), 0);
        due("16 of like ones the least", like.cure(0), 0);
        due("16 how many", like.cure(1), 12);
        // a mumbler alone keeps the even ones; the top's slip does not matter
        ThursdayRungs mumbler = of("m1,p3,c5");
        due("16 odd ones arrive now", mumbler.cure(0), NONE);
        due("16 as many", mumbler.cure(1), 6);
        ThursdayRungs mumbler3 = of("m3,p3,c5");
        due("16 the mumbler", mumbler3.cure(0), 0);
        due("16 six", mumbler3.cure(1), 6);
        // t2,t5: 3 farther; t0,t5: 5 farther; t2,t0: 10 farther: none arrives as it is
        ThursdayRungs twins = of("t2,t5,m1");
        due("16 twins", twins.cure(0), NONE);
        ThursdayRungs least = of("c3,c9,m5,m7,c0");
        due("16 by slip() and count(6)", least.cure(0), leastByHand(least));
        due("16 OUTSIDE", x.cure(2), OUTSIDE);
        for (int far : FAR) {
            due("16 far", x.cure(far), OUTSIDE);
        }
    }

    /** By slip() and count(6) alone: whose slip should be 0. */
    private static int leastByHand(ThursdayRungs x) {
        int most = x.count(6);
        int best = NONE;
        for (int i = 0; i < x.count(0); i++) {
            int was = x.slip(i, 0);
            if (x.count(6) > most) {
                most = x.count(6);
                best = i;
            }
            x.slip(i, was);
        }
        return best;
    }

    private static void hear() {
        ThursdayRungs x = of("c3,t7");
        due("17 UNKNOWN first", x.hear(2, 12, 12), UNKNOWN);
        due("17 OUTSIDE knew", x.hear(0, 12, 0), OUTSIDE);
        due("17 OUTSIDE taught", x.hear(0, 0, 12), OUTSIDE);
        for (int far : FAR) {
            due("17 far child", x.hear(far, 0, 0), UNKNOWN);
            due("17 far knew", x.hear(0, far, 0), OUTSIDE);
            due("17 far taught", x.hear(0, 0, far), OUTSIDE);
        }
        for (int i = 1; i <= 8; i++) {
            due("17 hear", x.hear(i % 2, i, 11), i);
        }
        due("17 FULL", x.hear(0, 0, 0), FULL);
        due("17 OUTSIDE ahead of FULL", x.hear(0, 0, 12), OUTSIDE);
        due("17 UNKNOWN ahead of FULL", x.hear(2, 0, 0), UNKNOWN);
        due("17 eight", x.count(7), 8);
        ThursdayRungs y = of("c3,t7");
        y.tell(0, 4);
        y.hear(0, 1, 5);
        y.hear(1, 1, 5);
        due("17 what it knows stays", y.child(0, 2), 4);
        due("17 nor does it know by that", y.child(1, 2), NONE);
        due("17 its slip stays", y.child(0, 1), 3);
        due("17 heard twice is two", y.hear(1, 1, 5), 3);
    }

    private static void slipsAndAsk() {
        ThursdayRungs x = of("c3,p1,t7,m5,e2");
        x.hear(0, 11, 3);
        due("6 slips of a child", x.child(0, 5), 1 << 4);
        due("6 the others' stay", x.child(2, 5), 1023);
        x.hear(2, 11, 3);
        due("6 slips of a twin", x.child(2, 5), 1 << 2);
        x.hear(3, 11, 3);
        due("6 slips of a mumbler", x.child(3, 5), 1 << 5);
        x.hear(1, 4, 4);
        due("6 slips of a parrot", x.child(1, 5), 1023);
        due("6 ask a parrot", x.child(1, 6), 0);
        x.hear(4, 7, 2);
        due("6 slips of an echo", x.child(4, 5), 1023);
        due("6 ask for one slip", x.child(2, 6), 0);
        x.hear(4, 7, 3);
        due("6 no slips of an echo", x.child(4, 5), 0);
        due("6 ask: none", x.child(4, 6), NONE);
        x.hear(0, 11, 2);
        due("6 no slips of a child", x.child(0, 5), 0);
        due("6 ask: none", x.child(0, 6), NONE);
        x.forget();
        due("6 forgotten", x.child(0, 5), 1023);
        x.hear(0, 0, 10);
        due("6 slip 10 is none", x.child(0, 5), 0);
    }

    private static void forget() {
        ThursdayRungs x = of("c3,t7");
        due("18 nothing", x.forget(), 0);
        x.hear(0, 0, 1);
        x.hear(0, 0, 2);
        due("18 two", x.forget(), 2);
        due("18 none", x.count(7), 0);
        due("18 heard anew", x.hear(0, 0, 3), 1);
        due("18 slips by it alone", x.child(0, 5), 1 << 3);
        x.tell(0, 4);
        x.thursday();
        x.ill(1, true);
        x.image();
        due("18 one", x.forget(), 1);
        int[] counts = {2, 2, 2, 1, 1, 1};
        for (int what = 0; what <= 5; what++) {
            due("18 count(" + what + ") stays", x.count(what), counts[what]);
        }
        due("18 the image stays", x.restore(), 1);
        due("18 one is heard again", x.count(7), 1);
    }

    private static void terms() {
        ThursdayRungs x = of("c0,c0");
        // seed 0: then 12345, which draws RULE 0; then 1406932606, 21468 times 65536, which draws child 0 as ILL
        due("19 a Thursday, child 0 ill", x.terms(1, 0, 0), 0);
        due("19 the top knows nothing", x.terms(1, 0, 1), 0);
        due("19 the seed of two draws", x.terms(1, 0, 2), 1406932606L);
        termsByHand("c0,c0", 60, 7);
        termsByHand("c3,t7,m5,e2,p1,c8", 60, Integer.MAX_VALUE);
        termsByHand("t5,m1,c9", 33, 123456789);
        x.tell(1, 5);
        due("19 from what is known", x.terms(1, 0, 1), 6);
        x.ill(0, true);
        x.ill(1, true);
        due("19 who is ill is so no more", x.terms(60, 0, 0) > 0 ? 1 : 0, 1);
        due("19 as they would be", x.child(0, 2), NONE);
        due("19 ill as before", x.count(3), 2);
        due("19 no Thursday", x.count(4), 0);
        due("19 nobody taught", x.count(5), 0);
        int[][] outside = {{0, 0, 0}, {61, 0, 0}, {1, -1, 0}, {1, 0, 3}, {1, 0, -1}, {-1, 0, 0}};
        for (int[] o : outside) {
            due("19 OUTSIDE", x.terms(o[0], o[1], o[2]), OUTSIDE);
        }
        for (int far : FAR) {
            due("19 far thursdays", x.terms(far, 0, 0), OUTSIDE);
            due("19 far what", x.terms(1, 0, far), OUTSIDE);
        }
        due("19 least seed", x.terms(1, Integer.MIN_VALUE, 0), OUTSIDE);
    }

    /** The terms again, by the calls for one Thursday after another. */
    private static void termsByHand(String text, int thursdays, int seed) {
        ThursdayRungs x = of(text);
        ThursdayRungs by = of(text);
        int children = by.count(0);
        int top = children - 1;
        java.math.BigInteger s = java.math.BigInteger.valueOf(seed);
        int topTaught = 0;
        for (int i = 0; i < thursdays; i++) {
            s = nextSeed(s);
            by.tell(0, s.intValue() / 65536 % 12);
            s = nextSeed(s);
            int illNow = s.intValue() / 65536 % (children + 1);
            for (int c = 0; c < children; c++) {
                by.ill(c, c == illNow);
            }
            if (by.child(top, 3) == 0 && by.child(top - 1, 4) != NONE) {
                topTaught++;
            }
            by.thursday();
        }
        due("19 how often, " + text, x.terms(thursdays, seed, 0), topTaught);
        due("19 which, " + text, x.terms(thursdays, seed, 1), by.child(top, 2) + 1);
        due("19 seed, " + text, x.terms(thursdays, seed, 2), s.intValue());
    }

    private static java.math.BigInteger nextSeed(java.math.BigInteger s) {
        return s.multiply(java.math.BigInteger.valueOf(1103515245)).add(java.math.BigInteger.valueOf(12345))
            .mod(java.math.BigInteger.ONE.shiftLeft(31));
    }

    private static void imageAndRestore() {
        ThursdayRungs x = of("c1,c1,c1");
        due("21 none kept", x.restore(), STATE);
        x.tell(0, 0);
        x.thursday();
        x.ill(2, true);
        x.hear(1, 0, 4);
        long before = x.digest();
        due("20 image", x.image(), 1);
        x.thursday();
        x.tell(0, 9);
        x.ill(2, false);
        x.ill(0, true);
        x.slip(1, 9);
        x.forget();
        x.hear(1, 0, 5);
        x.hear(2, 0, 6);
        due("21 restore", x.restore(), 1);
        due("21 all as it was", x.digest(), before);
        x.slip(1, 0);
        due("21 restore again", x.restore(), 1);
        due("21 all as it was", x.digest(), before);
        x.thursday();
        due("20 the latest", x.image(), 2);
        x.thursday();
        due("21 the latest", x.restore(), 2);
        write(x, "c1,c1,c1");
        due("21 the page is not of the image", x.restore(), 2);
        due("21 page stays", x.count(8), 8);
        x.school();
        due("21 another school", x.restore(), STATE);
        due("20 image of the new one", x.image(), 0);
        due("21 restore", x.restore(), 0);
        due("21 read twice", x.count(9), 2);
    }

    private static void count() {
        ThursdayRungs x = of("c1,p0,t1,c8");
        x.tell(0, 5);
        x.tell(1, 5);
        x.tell(3, 0);
        x.ill(2, true);
        x.ill(3, true);
        x.thursday();
        x.thursday();
        x.hear(0, 1, 2);
        write(x, "c1,");
        // the top's slip does nothing: 1 - (r + 1) is r for 0 and 6
        int[] counts = {4, 3, 3, 2, 2, 2, 2, 1, 3, 1};
        for (int what = 0; what <= 9; what++) {
            due("22 count(" + what + ")", x.count(what), counts[what]);
        }
        due("22 OUTSIDE", x.count(10), OUTSIDE);
        for (int far : FAR) {
            due("22 far", x.count(far), OUTSIDE);
        }
    }

    private static void digest() {
        ThursdayRungs x = new ThursdayRungs();
        due("23 of a new object", x.digest(), digestByHand(x, ""));
        write(x, "c7?");
        due("23 with a page", x.digest(), digestByHand(x, "c7?"));
        ThursdayRungs y = of("c3,t7,m5");
        write(y, "e9");
        y.tell(0, 4);
        y.hear(1, 2, 3);
        y.ill(1, true);
        y.thursday();
        due("23 with a school", y.digest(), digestByHand(y, "e9"));
    }

    private static long digestByHand(ThursdayRungs x, String page) {
        java.util.ArrayList<Long> numbers = new java.util.ArrayList<>();
        for (int i = 0; i < x.count(0); i++) {
            for (int what = 0; what <= 6; what++) {
                numbers.add((long) x.child(i, what));
            }
            numbers.add((long) x.arrives(i, 0));
            numbers.add((long) x.arrives(i, 1));
            numbers.add((long) x.arrives(i, 5));
            numbers.add((long) x.from(i, 3));
        }
        if (x.count(0) > 0) {
            numbers.add((long) x.soon());
            numbers.add((long) x.cure(0));
            numbers.add((long) x.cure(1));
        }
        for (int i = 0; i < page.length(); i++) {
            numbers.add((long) page.charAt(i));
        }
        for (int what = 0; what <= 9; what++) {
            numbers.add((long) x.count(what));
        }
        long h = 1039;
        for (long number : numbers) {
            h = h * 31 + number;
        }
        return h;
    }

    private static void refusalsChangeNothing() {
        ThursdayRungs x = of("c3,t7,m5");
        write(x, "c3,t");
        x.tell(1, 4);
        for (int i = 0; i < 8; i++) {
            x.hear(0, i, i + 3);
        }
        x.thursday();
        long before = x.digest();
        x.letter(0);
        x.school();
        x.child(3, 0);
        x.as(0, 9);
        x.tell(0, 12);
        x.tell(3, 1);
        x.ill(3, true);
        x.slip(0, 10);
        x.hear(0, 0, 0);
        x.hear(0, 0, 12);
        x.terms(0, 0, 0);
        x.terms(60, 99, 0);
        x.restore();
        x.count(10);
        x.cure(2);
        due("refusals change nothing", x.digest(), before);
    }

    private static void exampleOfReadme() {
        ThursdayRungs x = page("c3,t7,m5");
        due("README school", x.school(), 3);
        due("README tell", x.tell(0, 5), NONE);
        due("README soon", x.soon(), 2);
        due("README thursday", x.thursday(), 1);
        due("README child", x.child(1, 2), 8);
        due("README arrives", x.arrives(0, 5), 11);
        due("README refused", x.tell(0, 12), OUTSIDE);
    }
}
