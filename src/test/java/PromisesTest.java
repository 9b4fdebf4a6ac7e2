/** Each promise of the document by its number: ordinary inputs, the edges that are named, wrong inputs. */
public final class PromisesTest {
    private static final int UNKNOWN = -1, BAD = -2, LATE = -3, FULL = -4, NONE = -9;
    private static final int LOW = Integer.MIN_VALUE, HIGH = Integer.MAX_VALUE;
    private static int wrong = 0;

    public static void main(String[] args) {
        aNewObject();
        write();
        wipe();
        fault();
        parlour();
        about();
        person();
        saying();
        law();
        may();
        say();
        talk();
        come();
        go();
        undo();
        undoBeyondTheRow();
        judge();
        most();
        mostAt();
        soon();
        need();
        each();
        out();
        chance();
        keep();
        again();
        asTheReadmeTells();
        System.out.println(wrong == 0 ? "all promises are kept" : wrong + " answers are not as due");
        if (wrong != 0) {
            System.exit(1);
        }
    }

    private static void due(String what, long got, long want) {
        if (got != want) {
            wrong++;
            System.out.println(what + " answered " + got + ", due is " + want);
        }
    }

    private static void put(SaidLeast x, String text) {
        x.wipe();
        for (int i = 0; i < text.length(); i++) {
            x.write(1, text.charAt(i));
        }
    }

    private static SaidLeast of(String text) {
        SaidLeast x = new SaidLeast();
        put(x, text);
        due("fault() of " + text, x.fault(), NONE);
        x.parlour();
        return x;
    }

    private static void aNewObject() {
        SaidLeast x = new SaidLeast();
        for (int what = 0; what <= 10; what++) {
            due("1: about(" + what + ")", x.about(what), what == 9 ? NONE : 0);
        }
        due("1: person", x.person(0, 0), UNKNOWN);
        due("1: saying", x.saying(0, 0), UNKNOWN);
        due("1: law", x.law(1), 0);
        due("1: each", x.each(), 0);
        due("1: keep", x.keep(0), 0);
        due("1: again", x.again(0), 0);
        due("1: UNKNOWN", SaidLeast.UNKNOWN, UNKNOWN);
        due("1: BAD", SaidLeast.BAD, BAD);
        due("1: LATE", SaidLeast.LATE, LATE);
        due("1: FULL", SaidLeast.FULL, FULL);
        due("1: NONE", SaidLeast.NONE, NONE);
    }

    private static void write() {
        SaidLeast x = new SaidLeast();
        due("2: lowest bytes, highest first", x.write(2, 0x7777_7777_7777_5131L), 2);
        due("2: they are Q1", x.fault(), NONE);
        due("2: a part in two writes", x.write(1, 'P'), 3);
        due("2: more of it", x.write(2, 0x3432), 5);
        due("2: it is read", x.parlour(), 1);
        due("2: its words", x.person(0, 0), 42);
        for (int n : new int[] {LOW, -1, 0, 9, HIGH}) {
            due("2: write(" + n + ")", x.write(n, 0), BAD);
        }
        x.wipe();
        due("2: eight", x.write(8, 0x5130_5030_3550_3036L), 8);
        due("2: eight are read", x.parlour(), 2);
        due("2: the first", x.person(0, 0), 5);
        due("2: the second", x.person(1, 0), 6);
        x.wipe();
        for (int i = 1; i <= 7; i++) {
            due("2: " + i + " times nine less one", x.write(8, -1L), 8 * i);
        }
        due("2: 63", x.write(7, 0), 63);
        due("2: two would be too many", x.write(2, 0), FULL);
        due("2: nothing came", x.about(10), 63);
        due("2: one goes in", x.write(1, 0), 64);
        due("2: none goes in", x.write(1, 0), FULL);
        due("2: BAD is told ahead of FULL", x.write(9, 0), BAD);
    }

    private static void wipe() {
        SaidLeast x = of("Q2P07");
        due("3: wipe", x.wipe(), 5);
        due("3: it is empty", x.about(10), 0);
        due("3: again", x.wipe(), 0);
        due("3: fault of nothing", x.fault(), 0);
        due("3: the parlour stands", x.about(8), 7);
    }

    private static void faultOf(String text, int place) {
        SaidLeast x = new SaidLeast();
        put(x, text);
        due("4: fault() of " + text, x.fault(), place);
        due("4: parlour() of " + text, x.parlour() == LATE ? 1 : 0, place == NONE ? 0 : 1);
    }

    private static void fault() {
        faultOf("", 0);
        faultOf("q0", 0);
        faultOf("Q", 1);
        faultOf("Q3", 1);
        faultOf("Q-", 1);
        faultOf("Q0", NONE);
        faultOf("Q2", NONE);
        faultOf("Q0Q0", 2);
        faultOf("Q0p00", 2);
        faultOf("Q0P", 3);
        faultOf("Q0A9", 4);
        faultOf("Q0P9x", 4);
        faultOf("Q0P:0", 3);
        faultOf("Q0A/0", 3);
        faultOf("Q0P99A00", NONE);
        faultOf("Q0P000", 5);
        faultOf("Q0S010-", 2);
        faultOf("Q0P00S", 6);
        faultOf("Q0P00S0", 7);
        faultOf("Q0P00S01", 8);
        faultOf("Q0P00S010", 9);
        faultOf("Q0P00S010-", NONE);
        faultOf("Q0P00S1", 6);
        faultOf("Q0P00S-", 6);
        faultOf("Q0P00S00", 7);
        faultOf("Q0P00S09", 8);
        faultOf("Q0P00S01-", 8);
        faultOf("Q0P00S0100", 9);
        faultOf("Q0P00S010-S0100", NONE);
        faultOf("Q0P00S010-S0101", 14);
        faultOf("Q0P00S010-S0100S0100", 19);
        faultOf("Q0P00S010-S0100S0101", NONE);
        faultOf("Q0P00S010-S0100S0101S0100", 24);
        faultOf("Q0P00S010-S0100S0101S0102", NONE);
        faultOf("Q0P00S0:0-", 7);
        faultOf("Q0P00S01:-", 8);
        faultOf("Q0P00S110-P00", 6);
        faultOf("Q0P00P00S510-", 9);
        faultOf("Q0P00A00P00A00P00A00", NONE);
        faultOf("Q0P00A00P00A00P00A00P", 20);
        faultOf("Q0P00A00P00A00P00A00A00", 20);
        faultOf("Q0P00A00P00A00P00A00S510-", NONE);
        faultOf("Q0P00A00P00A00P00A00S610-", 21);
        String eight = "Q0P00S010-S0100S0101S0102S0103S0104S0105S0106";
        faultOf(eight, NONE);
        faultOf(eight + "S", 45);
        faultOf(eight + "P00", NONE);
        SaidLeast x = new SaidLeast();
        x.write(3, 0x5130D0L);
        due("4: a byte beyond 127", x.fault(), 2);
    }

    private static void parlour() {
        SaidLeast x = of("Q1P03A04S021-S1120");
        due("5: people", x.parlour(), 2);
        due("5: the text stays", x.about(10), 18);
        x.say(0);
        x.keep(0);
        put(x, "Q1P03A04S021-S112");
        due("5: a fault", x.parlour(), LATE);
        due("5: nothing changed", x.about(5), 1);
        due("5: acts stay", x.about(7), 1);
        due("5: what was kept stays", x.again(0), 1);
        x.go(0);
        put(x, "Q2P07");
        due("5: another", x.parlour(), 1);
        due("5: no sayings", x.about(1), 0);
        due("5: law", x.about(2), 2);
        due("5: none said", x.about(5), 0);
        due("5: no acts", x.undo(), LATE);
        due("5: none last", x.about(9), NONE);
        due("5: what was kept is gone", x.again(0), LATE);
        due("5: words", x.person(0, 0), 7);
        due("5: is there", x.about(3), 1);
        put(x, "Q0");
        due("5: nobody", x.parlour(), 0);
    }

    private static void about() {
        SaidLeast x = of("Q2P03P04A01P03S024-S3130S115-");
        int[] first = {4, 3, 2, 11, 9, 0, 0, 0, 10, NONE, 29};
        for (int what = 0; what <= 10; what++) {
            due("6: about(" + what + ")", x.about(what), first[what]);
        }
        x.say(0);
        x.say(1);
        int[] second = {4, 3, 2, 11, 10, 3, 7, 2, 13, 1, 29};
        for (int what = 0; what <= 10; what++) {
            due("6: then about(" + what + ")", x.about(what), second[what]);
        }
        x.talk(1, 1);
        due("6: the last was no saying", x.about(9), NONE);
        for (int what : new int[] {LOW, -1, 11, HIGH}) {
            due("6: about(" + what + ")", x.about(what), BAD);
        }
    }

    private static void person() {
        SaidLeast x = of("Q0P03A01P03S024-S215-S119-S013-");
        due("7: words", x.person(0, 0), 3);
        due("7: words of one away", x.person(1, 0), 1);
        due("7: there", x.person(0, 1), 1);
        due("7: away", x.person(1, 1), 0);
        due("7: least", x.person(2, 2), 1);
        due("7: away is not least", x.person(1, 2), 0);
        x.say(0);
        due("7: words then", x.person(0, 0), 5);
        due("7: no more least", x.person(0, 2), 0);
        due("7: worth", x.person(0, 3), 4);
        due("7: no worth", x.person(2, 3), 0);
        due("7: none such", x.person(3, 0), UNKNOWN);
        due("7: none such", x.person(-1, 0), UNKNOWN);
        due("7: UNKNOWN ahead of BAD", x.person(3, 9), UNKNOWN);
        due("7: bad", x.person(0, 4), BAD);
        due("7: bad", x.person(0, -1), BAD);
        x.go(0);
        x.come(0);
        due("7: what it said keeps its worth", x.person(0, 3), 4);
        due("7: but its words are forgotten", x.person(0, 0), 0);
    }

    private static void saying() {
        SaidLeast x = of("Q0P03P04S198-S0530");
        int[] first = {1, 9, 8, NONE, 0};
        int[] second = {0, 5, 3, 0, 0};
        for (int what = 0; what <= 4; what++) {
            due("8: saying(0, " + what + ")", x.saying(0, what), first[what]);
            due("8: saying(1, " + what + ")", x.saying(1, what), second[what]);
        }
        x.talk(0, 1);
        x.say(0);
        due("8: said", x.saying(0, 4), 1);
        due("8: not said", x.saying(1, 4), 0);
        due("8: none such", x.saying(2, 0), UNKNOWN);
        due("8: none such", x.saying(-1, 7), UNKNOWN);
        due("8: bad", x.saying(0, 5), BAD);
        due("8: bad", x.saying(0, -1), BAD);
    }

    private static void law() {
        SaidLeast x = of("Q1P02P05A09A09S010-S0100");
        due("9: what it was", x.law(0), 1);
        due("9: what it was", x.law(2), 0);
        due("9: bad", x.law(3), BAD);
        due("9: bad", x.law(-1), BAD);
        due("9: it stays", x.about(2), 2);
        due("9: it is no act", x.about(7), 0);
        x.say(0);
        x.law(1);
        due("9: an answer may still follow", x.may(1), 1);
        x.undo();
        due("9: it is not undone", x.about(2), 1);
    }

    private static void may() {
        SaidLeast x = of("Q0P02P03A00S011-S1110S113-S214-S2131");
        int[] first = {1, 0, 0, 0, 0};
        int[] second = {0, 1, 1, 0, 0};
        int[] third = {0, 0, 0, 0, 0};
        for (int s = 0; s < 5; s++) {
            due("10: may(" + s + ")", x.may(s), first[s]);
        }
        x.say(0);
        for (int s = 0; s < 5; s++) {
            due("10: behind 0 may(" + s + ")", x.may(s), second[s]);
        }
        x.say(1);
        for (int s = 0; s < 5; s++) {
            due("10: behind 1 may(" + s + ") with 2 away", x.may(s), third[s]);
        }
        due("10: none such", x.may(5), UNKNOWN);
        due("10: none such", x.may(-1), UNKNOWN);
        x = of("Q0P00P09A00S011-S1110");
        x.say(0);
        due("10: an answer by one that is not least", x.may(1), 1);
        x.talk(0, 1);
        due("10: not behind talk", x.may(1), 0);
        x.undo();
        x.come(2);
        due("10: not when one came between", x.may(1), 0);
        x.undo();
        x.go(0);
        due("10: not when one went between", x.may(1), 0);
        x.undo();
        due("10: right behind it again", x.may(1), 1);
    }

    private static void say() {
        SaidLeast x = of("Q0P02P03S021-S1110");
        due("11: it may not be", x.say(1), LATE);
        due("11: nothing changed", x.about(7), 0);
        due("11: words then", x.say(0), 4);
        due("11: once only", x.say(0), LATE);
        due("11: its answer", x.say(1), 4);
        due("11: which one last", x.about(9), 1);
        due("11: none such", x.say(2), UNKNOWN);
        due("11: none such", x.say(LOW), UNKNOWN);
    }

    private static void talk() {
        SaidLeast x = of("Q0P02P03A00S011-");
        due("12: words then", x.talk(0, 1), 3);
        due("12: both are least", x.talk(1, 9), 12);
        due("12: not least", x.talk(1, 1), LATE);
        due("12: away", x.talk(2, 1), LATE);
        due("12: none", x.talk(0, 0), BAD);
        due("12: too many", x.talk(0, 10), BAD);
        due("12: BAD ahead of LATE", x.talk(1, 10), BAD);
        due("12: UNKNOWN ahead of BAD", x.talk(3, 10), UNKNOWN);
        due("12: none such", x.talk(-1, 1), UNKNOWN);
        due("12: two acts", x.about(7), 2);
        due("12: of no worth", x.about(6), 0);
    }

    private static void come() {
        SaidLeast x = of("Q0P02P05A99A50A07");
        due("13: law 0", x.come(2), 0);
        x.go(2);
        x.law(1);
        due("13: the mean, cut", x.come(2), 3);
        due("13: of those there then", x.come(3), 3);
        x.go(3);
        x.go(2);
        x.law(2);
        due("13: most of those there", x.come(2), 5);
        due("13: it is there", x.come(2), LATE);
        SaidLeast y = of("Q2P08P05A99");
        due("13: most of those there, the first", y.come(2), 8);
        due("13: none such", x.come(5), UNKNOWN);
        due("13: none such", x.come(-1), UNKNOWN);
        due("13: the row", x.about(7), 7);
        due("13: who is there", x.about(3), 7);
        for (int law = 0; law <= 2; law++) {
            x = of("Q0A11A22");
            x.law(law);
            due("13: nobody there, law " + law, x.come(1), 0);
        }
    }

    private static void go() {
        SaidLeast x = of("Q0P02P05A09");
        due("14: how many", x.go(0), 1);
        due("14: who is least then", x.about(4), 2);
        due("14: its words stay", x.person(0, 0), 2);
        due("14: it is away", x.go(0), LATE);
        due("14: another is away", x.go(2), LATE);
        due("14: none such", x.go(3), UNKNOWN);
        due("14: the last", x.go(1), 0);
        due("14: nobody is least", x.about(4), 0);
    }

    private static void undo() {
        SaidLeast x = of("Q2P02P05A09S011-S0180");
        due("15: none", x.undo(), LATE);
        x.say(0);
        x.say(1);
        x.come(2);
        x.go(1);
        x.talk(0, 7);
        due("15: talk", x.undo(), 4);
        due("15: words", x.person(0, 0), 4);
        due("15: going", x.undo(), 3);
        due("15: is there", x.person(1, 1), 1);
        due("15: coming", x.undo(), 2);
        due("15: is away", x.person(2, 1), 0);
        due("15: its words are known again", x.person(2, 0), 9);
        due("15: which was last", x.about(9), 1);
        due("15: an answer", x.undo(), 1);
        due("15: said", x.about(5), 1);
        due("15: it may be again", x.may(1), 1);
        due("15: a saying", x.undo(), 0);
        due("15: none said", x.about(5), 0);
        due("15: none last", x.about(9), NONE);
        due("15: words", x.person(0, 0), 2);
        due("15: none", x.undo(), LATE);
    }

    private static void undoBeyondTheRow() {
        SaidLeast x = of("Q0P00S011-S0120");
        x.say(0);
        for (int i = 2; i <= 20; i++) {
            x.talk(0, 1);
            due("15: a row of twelve at most", x.about(7), Math.min(i, 12));
        }
        for (int i = 11; i >= 0; i--) {
            due("15: one by one", x.undo(), i);
        }
        due("15: the first are forgotten", x.undo(), LATE);
        due("15: their words stay", x.person(0, 0), 8);
        x = of("Q0P00S011-S0120");
        x.say(0);
        for (int i = 0; i < 12; i++) {
            x.talk(0, 1);
        }
        for (int i = 0; i < 12; i++) {
            x.undo();
        }
        due("15: what was said stays", x.about(5), 1);
        due("15: right behind it again", x.may(1), 1);
    }

    private static void judge() {
        SaidLeast x = of("Q0P00P00S011-S112-S0130S015-");
        due("16: 0, 1, 3 may be", x.judge(3, 13), NONE);
        due("16: leading noughts", x.judge(2, 1), NONE);
        due("16: an answer makes it say more, then it is not least", x.judge(4, 213), 3);
        due("16: an answer ahead of what it answers", x.judge(4, 2013), 0);
        due("16: 0, then 2, 1", x.judge(3, 21), NONE);
        due("16: 0, then 1, then no answer", x.judge(3, 12), 2);
        due("16: twice", x.judge(3, 10), 2);
        due("16: none such", x.judge(2, 9), 1);
        due("16: none such at first", x.judge(1, 4), 0);
        due("16: no sayings", x.judge(0, 0), BAD);
        due("16: too many", x.judge(9, 0), BAD);
        due("16: too few figures", x.judge(2, 100), BAD);
        due("16: below nought", x.judge(2, -1), BAD);
        due("16: eight figures", x.judge(8, 99_999_999), 0);
        due("16: nine", x.judge(8, 100_000_000), BAD);
        due("16: bad", x.judge(8, HIGH), BAD);
        due("16: bad", x.judge(LOW, 0), BAD);
        due("16: nothing changed", x.about(5), 0);
        x.say(0);
        due("16: from now on", x.judge(2, 21), NONE);
        due("16: said already", x.judge(1, 0), 0);
        due("16: no acts more", x.about(7), 1);
    }

    private static void most() {
        SaidLeast x = of("Q0P00P00S011-S112-S019-");
        int[] worth = {0, 9, 11, 12, 12};
        for (int t = 0; t <= 4; t++) {
            due("17: most(" + t + ")", x.most(t), worth[t]);
        }
        due("17: most(72)", x.most(72), 12);
        due("17: bad", x.most(73), BAD);
        due("17: bad", x.most(-1), BAD);
        x.say(2);
        due("17: only what is said more", x.most(72), 3);
        due("17: its turn only", x.most(1), 2);
        x = of("Q0P00P05S011-S1190");
        due("17: the first only", x.most(1), 1);
        due("17: an answer by one not least", x.most(2), 10);
        x.say(0);
        due("17: right behind now", x.most(1), 9);
        x.talk(0, 1);
        due("17: too late", x.most(72), 0);
        x = of("Q0P00S099-S099-S099-S099-S099-S099-S099-S099-");
        due("17: all 72", x.most(72), 72);
        due("17: one less", x.most(71), 63);
        x = of("Q0A00S019-");
        due("17: nobody there", x.most(9), 0);
    }

    private static void orderOf(SaidLeast x, int t, int... order) {
        for (int i = 0; i < order.length; i++) {
            due("18: mostAt(" + t + ", " + i + ")", x.mostAt(t, i), order[i]);
        }
        due("18: mostAt(" + t + ") at its end", x.mostAt(t, order.length), NONE);
        due("18: far behind it", x.mostAt(t, HIGH), NONE);
        due("18: ahead of it", x.mostAt(t, -1), NONE);
    }

    private static void mostAt() {
        SaidLeast x = of("Q0P00P00S011-S112-S019-");
        orderOf(x, 0);
        orderOf(x, 1, 2);
        orderOf(x, 2, 1, 2);
        orderOf(x, 3, 0, 1, 2);
        due("18: bad", x.mostAt(73, 0), BAD);
        due("18: bad", x.mostAt(-1, -1), BAD);
        x = of("Q0P00S010-S015-");
        orderOf(x, 1, 1);
        orderOf(x, 2, 0, 1);
        x = of("Q0P00S015-S010-");
        orderOf(x, 2, 0);
        x = of("Q0P00S010-S010-");
        orderOf(x, 9);
        x = of("Q0P00P09S012-S1190S013-");
        orderOf(x, 2, 0, 1);
        orderOf(x, 3, 0, 1, 2);
        x.say(0);
        orderOf(x, 2, 1, 2);
        x = of("Q0P00S011-S0110S0111S0112S0113S0114S0115S0116");
        orderOf(x, 72, 0, 1, 2, 3, 4, 5, 6, 7);
        x = of("Q0P00S011-S0110S011-S0112");
        orderOf(x, 4, 0, 1, 2, 3);
        x = of("Q0P00P00S110-S0110S012-");
        orderOf(x, 3, 0, 1, 2);
        orderOf(x, 2, 0, 2);
        orderOf(x, 1, 2);
    }

    private static void soon() {
        SaidLeast x = of("Q0P00P02S031-S115-S019-S1122");
        due("19: now", x.soon(0), 0);
        due("19: now", x.soon(2), 0);
        due("19: behind the other", x.soon(1), 3);
        due("19: an answer", x.soon(3), 1);
        due("19: none such", x.soon(4), UNKNOWN);
        due("19: none such", x.soon(-1), UNKNOWN);
        x.say(2);
        due("19: said", x.soon(2), NONE);
        due("19: the answer now", x.soon(3), 0);
        due("19: by the answer sooner or not", x.soon(1), 3);
        x.talk(0, 1);
        due("19: the answer never", x.soon(3), NONE);
        due("19: the other now", x.soon(1), 0);
        x.go(1);
        due("19: away", x.soon(1), NONE);
        x = of("Q0P00P09S011-S1150");
        due("19: the least of ways", x.soon(1), 1);
        x = of("Q0P00S021-");
        x.say(0);
        due("19: all was said", x.soon(0), NONE);
        x = of("Q0P00P02S091-S021-S115-");
        due("19: fewest words", x.soon(2), 2);
    }

    private static void need() {
        SaidLeast x = of("Q0P02P05A00P09P05");
        due("20: it is least", x.need(0), 0);
        due("20: one below", x.need(1), 3);
        due("20: three below", x.need(3), 7 + 4 + 4);
        due("20: away", x.need(2), LATE);
        due("20: none such", x.need(5), UNKNOWN);
        due("20: none such", x.need(-1), UNKNOWN);
        due("20: nothing changed", x.about(8), 21);
    }

    private static void each() {
        due("21: of no worth it holds out", of("Q0P00S010-").each(), 0);
        due("21: of some it says", of("Q0P00S011-").each(), 1);
        due("21: all of its own", of("Q0P00S011-S0110").each(), 3);
        due("21: of like ones the least", of("Q0P00P00S019-S019-").each(), 1);
        due("21: one only, the better", of("Q0P00P00S095-S013-S110-").each(), 1);
        due("21: both, by way of the other", of("Q0P00P00S095-S013-S111-").each(), 7);
        due("21: no answers are kept", of("Q0P00P05S011-S1190").each(), 1);
        due("21: an answer as any", of("Q0P00P00S010-S1190").each(), 2);
        due("21: away", of("Q0A00P00S011-S119-").each(), 2);
        SaidLeast x = of("Q0P00P00S010-S111-");
        x.say(0);
        due("21: what was said so far, too", x.each(), 3);
        due("21: nothing changed", x.about(5), 1);
        due("21: by turns", of("Q0P00P01S015-S119-").each(), 3);
    }

    private static void out() {
        SaidLeast x = of("Q0P00P00A00");
        due("22: one word by the other", x.out(1, 1), 1);
        due("22: both one", x.out(2, 3), 1);
        due("22: 0 and 2", x.out(2, 1), 1);
        due("22: both nine", x.out(18, 3), 1);
        due("22: no more than that", x.out(19, 3), 0);
        due("22: none least", x.out(2, 0), 0);
        due("22: one that is away", x.out(2, 4), 0);
        due("22: one that is away, too", x.out(2, 7), 0);
        due("22: bad", x.out(2, 8), BAD);
        due("22: bad", x.out(2, -1), BAD);
        due("22: bad", x.out(55, 0), BAD);
        due("22: bad", x.out(-1, 0), BAD);
        due("22: five apart", of("Q0P00P05").out(5, 3), 1);
        due("22: nine apart and more", of("Q0P00P10").out(9, 3), 0);
        x = of("Q0P00P00P00P00P00P00");
        due("22: all nine", x.out(54, 63), 1);
        due("22: one nought, five others of ten", x.out(10, 1), 126);
        due("22: nobody", of("Q0A00").out(0, 0), 1);
        due("22: nobody says nothing", of("Q0A00").out(1, 0), 0);
        due("22: nobody is least", of("Q0A00").out(0, 1), 0);
    }

    private static void chanceOf(SaidLeast x, int[] call, long above, long below) {
        String told = "23: chance(" + call[0] + ", " + call[1] + ", " + call[2] + ")";
        due(told + " above", x.chance(call[0], call[1], call[2], true), above);
        due(told + " below", x.chance(call[0], call[1], call[2], false), below);
    }

    private static void chance() {
        SaidLeast x = of("Q0P00P01A00");
        chanceOf(x, new int[] {0, 0, 5}, 1, 1);
        chanceOf(x, new int[] {1, 0, 5}, 0, 1);
        chanceOf(x, new int[] {0, 1, 3}, 3, 10);
        chanceOf(x, new int[] {0, 1, 4}, 2, 5);
        chanceOf(x, new int[] {1, 1, 3}, 1, 1);
        chanceOf(x, new int[] {0, 1, 0}, 0, 1);
        chanceOf(x, new int[] {0, 1, 10}, 1, 1);
        chanceOf(x, new int[] {2, 6, 5}, 0, 1);
        chanceOf(of("Q0P00"), new int[] {0, 6, 7}, 1, 1);
        chanceOf(of("Q0A00"), new int[] {0, 6, 7}, 0, 1);
        // 1 and 1: least of both is 0; then it says: 1 is least alone; then 1 says: 1 or 2 against 2 or 3
        chanceOf(of("Q0P01P01"), new int[] {0, 2, 3}, 79, 100);
        due("23: none such", x.chance(3, 7, 11, true), UNKNOWN);
        due("23: none such", x.chance(-1, 0, 0, true), UNKNOWN);
        due("23: bad", x.chance(0, 7, 0, true), BAD);
        due("23: bad", x.chance(0, -1, 0, true), BAD);
        due("23: bad", x.chance(0, 0, 11, false), BAD);
        due("23: bad", x.chance(0, 0, -1, false), BAD);
        due("23: nothing changed", x.about(8), 1);
    }

    private static void keep() {
        SaidLeast x = of("Q0P00P01A00");
        due("24: how many are there", x.keep(0), 2);
        x.go(1);
        due("24: how many are there", x.keep(1), 1);
        due("24: none such", x.keep(2), UNKNOWN);
        due("24: none such", x.keep(-1), UNKNOWN);
        due("24: acts stay", x.about(7), 1);
        due("24: the first", x.again(0), 2);
        due("24: the second", x.again(1), 1);
        x.come(2);
        due("24: over the old one", x.keep(1), 2);
        due("24: as it is now", x.again(1), 2);
        due("24: who is there", x.about(3), 5);
    }

    private static void again() {
        SaidLeast x = of("Q1P00P05A00S011-S1190S014-");
        due("25: none kept", x.again(1), LATE);
        due("25: none such", x.again(2), UNKNOWN);
        due("25: none such", x.again(-1), UNKNOWN);
        x.say(0);
        x.keep(1);
        x.talk(0, 5);
        x.come(2);
        x.law(2);
        due("25: how many are there", x.again(1), 2);
        due("25: words", x.person(0, 0), 1);
        due("25: what was said", x.about(5), 1);
        due("25: which one last", x.about(9), 0);
        due("25: its answer may be", x.may(1), 1);
        due("25: law", x.about(2), 1);
        due("25: no acts", x.about(7), 0);
        due("25: none to undo", x.undo(), LATE);
        x.say(1);
        due("25: more than once", x.again(1), 2);
        due("25: as before", x.about(5), 1);
        due("25: the other was not kept", x.again(0), LATE);
        due("25: it stays as it was", x.about(9), 0);
    }

    /** The example of README.md, call by call. */
    private static void asTheReadmeTells() {
        SaidLeast x = new SaidLeast();
        due("README: write", x.write(8, 0x5130503030503032L), 8);
        due("README: write", x.write(5, 0x533031352DL), 13);
        due("README: write", x.write(5, 0x5331323730L), 18);
        due("README: fault", x.fault(), NONE);
        due("README: parlour", x.parlour(), 2);
        due("README: may", x.may(0), 1);
        due("README: may", x.may(1), 0);
        due("README: most", x.most(72), 12);
        due("README: mostAt", x.mostAt(72, 0), 0);
        due("README: mostAt", x.mostAt(72, 1), 1);
        due("README: mostAt", x.mostAt(72, 2), NONE);
        due("README: soon", x.soon(1), 1);
        due("README: need", x.need(1), 2);
        due("README: each", x.each(), 1);
        due("README: out", x.out(3, 1), 3);
        due("README: chance", x.chance(1, 1, 3, true), 7);
        due("README: chance", x.chance(1, 1, 3, false), 10);
        due("README: keep", x.keep(0), 2);
        due("README: say", x.say(0), 1);
        due("README: say", x.say(1), 4);
        due("README: talk", x.talk(1, 1), LATE);
        due("README: undo", x.undo(), 1);
        due("README: again", x.again(0), 2);
        due("README: undo", x.undo(), LATE);
    }
}
