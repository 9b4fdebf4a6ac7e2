import java.util.function.Supplier;
import java.util.function.ToLongFunction;

/** Each boundary case that the document names, one by one; every object is used for far fewer than 512 calls. */
public final class EdgesTest {
    private static final int UNKNOWN = -1, BAD = -2, LATE = -3, FULL = -4, NONE = -9;
    private static final int LOW = Integer.MIN_VALUE, HIGH = Integer.MAX_VALUE;
    private static final int[] FAR = {LOW, LOW + 1, -1_000_000, -65, -10, -9, -4, -3, -2, -1};
    /** Six people and eight sayings: no parlour is longer. */
    private static final String LONGEST = "Q2P05P05P07A99P05P06S011-S1220S213-S314-S4151S516-S0175S1186";
    private static final int MOST_TOLD = 100;
    private static int wrong = 0;
    private static int asked = 0;

    public static void main(String[] args) {
        newObject();
        writeEdges();
        textIsFull();
        wipeEdges();
        faultOfEachSign();
        faultByHand();
        faultOfCounts();
        parlourEdges();
        parlourRefused();
        aboutEdges();
        personEdges();
        sayingEdges();
        lawEdges();
        saidOnce();
        saidByThoseThatMay();
        answerRightBehind();
        answerNotRightBehind();
        talkEdges();
        comeByLaw0();
        comeByLaw1();
        comeByLaw2();
        comeEdges();
        goEdges();
        undoOfEachKind();
        undoDownToNone();
        twelveActsAndMore();
        forgottenOfEachKind();
        rowWrapsAround();
        judgeNumbers();
        judgeRows();
        mostEdges();
        mostLimits();
        mostAtEdges();
        mostAtOfLikeOnes();
        ordersOneBehindTheOther();
        soonEdges();
        needEdges();
        eachEdges();
        eachOfLikeOnes();
        outNumbers();
        outByHand();
        outSums();
        chanceNumbers();
        chanceByHand();
        chanceOfLikeLeast();
        fractionsInLeastTerms();
        keepEdges();
        againEdges();
        keptIsNotChanged();
        slotsAreTwo();
        refusedChangesNothing();
        lookingChangesNothing();
        System.out.println(wrong == 0 ? "all " + asked + " edges are as due" : wrong + " answers are not as due");
        if (wrong != 0) {
            System.exit(1);
        }
    }

    private static void due(String what, long got, long want) {
        asked++;
        if (got != want) {
            wrong++;
            if (wrong > MOST_TOLD) {
                return;
            }
            System.out.println(what + " answered " + got + ", due is " + want);
        }
    }

    private static void same(String what, String got, String want) {
        asked++;
        if (!got.equals(want)) {
            wrong++;
            System.out.println(what + ":\n  it is " + got + "\n  due is " + want);
        }
    }

    private static SaidLeast written(String text) {
        SaidLeast x = new SaidLeast();
        write(x, text);
        return x;
    }

    private static void write(SaidLeast x, String text) {
        for (int i = 0; i < text.length(); i++) {
            x.write(1, text.charAt(i));
        }
    }

    private static SaidLeast of(String text) {
        SaidLeast x = written(text);
        due("parlour() of " + text + " is none: fault()", x.fault(), NONE);
        x.parlour();
        return x;
    }

    private static String rep(String part, int times) {
        return part.repeat(times);
    }

    // ---- 1: a new object

    private static void newObject() {
        for (int what = 0; what <= 10; what++) {
            due("1: new, about(" + what + ")", new SaidLeast().about(what), what == 9 ? NONE : 0);
        }
        due("1: new, about(-1)", new SaidLeast().about(-1), BAD);
        due("1: new, about(11)", new SaidLeast().about(11), BAD);
        due("1: new, write(1)", new SaidLeast().write(1, 'Q'), 1);
        due("1: new, write(8)", new SaidLeast().write(8, 0), 8);
        due("1: new, wipe()", new SaidLeast().wipe(), 0);
        due("1: new, fault()", new SaidLeast().fault(), 0);
        due("1: new, parlour()", new SaidLeast().parlour(), LATE);
        due("1: new, person(0, 0)", new SaidLeast().person(0, 0), UNKNOWN);
        due("1: new, person(0, 4)", new SaidLeast().person(0, 4), UNKNOWN);
        due("1: new, saying(0, 0)", new SaidLeast().saying(0, 0), UNKNOWN);
        due("1: new, saying(0, 5)", new SaidLeast().saying(0, 5), UNKNOWN);
        due("1: new, law(2)", new SaidLeast().law(2), 0);
        due("1: new, may(0)", new SaidLeast().may(0), UNKNOWN);
        due("1: new, say(0)", new SaidLeast().say(0), UNKNOWN);
        due("1: new, talk(0, 1)", new SaidLeast().talk(0, 1), UNKNOWN);
        due("1: new, talk(0, 0)", new SaidLeast().talk(0, 0), UNKNOWN);
        due("1: new, come(0)", new SaidLeast().come(0), UNKNOWN);
        due("1: new, go(0)", new SaidLeast().go(0), UNKNOWN);
        due("1: new, undo()", new SaidLeast().undo(), LATE);
        due("1: new, judge(1, 0)", new SaidLeast().judge(1, 0), 0);
        due("1: new, judge(8, 12345678)", new SaidLeast().judge(8, 12_345_678), 0);
        due("1: new, judge(1, 10)", new SaidLeast().judge(1, 10), BAD);
        due("1: new, most(0)", new SaidLeast().most(0), 0);
        due("1: new, most(72)", new SaidLeast().most(72), 0);
        due("1: new, mostAt(72, 0)", new SaidLeast().mostAt(72, 0), NONE);
        due("1: new, soon(0)", new SaidLeast().soon(0), UNKNOWN);
        due("1: new, need(0)", new SaidLeast().need(0), UNKNOWN);
        due("1: new, each()", new SaidLeast().each(), 0);
        due("1: new, out(0, 0)", new SaidLeast().out(0, 0), 1);
        due("1: new, out(1, 0)", new SaidLeast().out(1, 0), 0);
        due("1: new, out(0, 1)", new SaidLeast().out(0, 1), BAD);
        due("1: new, chance(0, 0, 0)", new SaidLeast().chance(0, 0, 0, true), UNKNOWN);
        due("1: new, chance(0, 7, 11)", new SaidLeast().chance(0, 7, 11, false), UNKNOWN);
        due("1: new, keep(0)", new SaidLeast().keep(0), 0);
        due("1: new, keep(1)", new SaidLeast().keep(1), 0);
        due("1: new, again(0)", new SaidLeast().again(0), LATE);
        due("1: new, again(1)", new SaidLeast().again(1), LATE);
        due("1: new, again(2)", new SaidLeast().again(2), UNKNOWN);
    }

    // ---- 2 to 5: the text

    private static void writeEdges() {
        SaidLeast x = new SaidLeast();
        due("2: fewer than 1", x.write(0, 'Q'), BAD);
        due("2: more than 8", x.write(9, 'Q'), BAD);
        due("2: far fewer", x.write(LOW, 'Q'), BAD);
        due("2: far more", x.write(HIGH, 'Q'), BAD);
        due("2: nothing came", x.about(10), 0);
        due("2: 1, only the lowest byte", x.write(1, 0xFFFF_FFFF_FFFF_FF51L), 1);
        due("2: it was Q", x.fault(), 1);
        due("2: 7, the highest of them first", x.write(7, 0xFF_32_50_34_32_41_30_37L), 8);
        due("2: they were 2P42A07", x.parlour(), 2);
        due("2: LAW", x.about(2), 2);
        due("2: the first one's WORDS", x.person(0, 0), 42);
        due("2: the second one's WORDS", x.person(1, 0), 7);
        x.wipe();
        due("2: all 8", x.write(8, 0x51_31_41_36_31_50_31_39L), 8);
        due("2: they were Q1A61P19", x.parlour(), 2);
        due("2: the first byte made it a text", x.about(2), 1);
        due("2: the last byte is in", x.person(1, 0), 19);
        for (int n = 1; n <= 8; n++) {
            due("2: write(" + n + ") of a new one", new SaidLeast().write(n, -1L), n);
        }
    }

    private static void textIsFull() {
        for (int n = 1; n <= 8; n++) {
            SaidLeast x = new SaidLeast();
            int before = 64 - n;
            write(x, rep("Q", before));
            if (n < 8) {
                due("2: 65 behind " + before, x.write(n + 1, -1L), FULL);
                due("2: nothing came behind " + before, x.about(10), before);
            }
            due("2: just 64 behind " + before, x.write(n, -1L), 64);
            due("2: one more", x.write(1, 0), FULL);
            due("2: eight more", x.write(8, 0), FULL);
            due("2: a wrong n is told first", x.write(0, 0), BAD);
            due("2: a wrong n is told first", x.write(9, 0), BAD);
            due("2: it stays 64", x.about(10), 64);
        }
        SaidLeast x = written(LONGEST);
        due("2: the longest PARLOUR", x.about(10), 60);
        due("2: five are too many", x.write(5, 0x5151515151L), FULL);
        due("2: none of them came", x.fault(), NONE);
        due("2: four go in", x.write(4, 0x51515151L), 64);
        due("2: now it is none", x.fault(), 60);
        due("2: wiped", x.wipe(), 64);
        due("2: there is room", x.write(2, 0x5130), 2);
        due("2: it begins anew", x.fault(), NONE);
    }

    private static void wipeEdges() {
        SaidLeast x = new SaidLeast();
        due("3: an empty one", x.wipe(), 0);
        due("3: once more", x.wipe(), 0);
        x.write(1, 'Q');
        due("3: of one byte", x.wipe(), 1);
        due("3: it is empty", x.about(10), 0);
        due("3: FAULT of an empty one", x.fault(), 0);
        due("3: it is no PARLOUR", x.parlour(), LATE);
        write(x, "Q1P07S012-");
        x.parlour();
        x.say(0);
        x.keep(1);
        due("3: of ten", x.wipe(), 10);
        due("3: THE PARLOUR stays", x.about(0), 1);
        due("3: what was said stays", x.about(5), 1);
        due("3: ACTS stay", x.undo(), 0);
        due("3: what was kept stays", x.again(1), 1);
    }

    /** Of a text that may still become one, each of the 256 bytes: those that go on, and all others. */
    private static void signs(String ahead, String goingOn) {
        for (int sign = 0; sign < 256; sign++) {
            SaidLeast x = new SaidLeast();
            write(x, ahead);
            x.write(1, sign);
            boolean isFault = x.fault() == ahead.length();
            due("4: byte " + sign + " behind " + ahead + " is a FAULT", isFault ? 1 : 0, goingOn.indexOf(sign) < 0 ? 1 : 0);
        }
        SaidLeast x = written(ahead + "?Q0P00");
        due("4: whatever came behind a wrong byte of " + ahead, x.fault(), ahead.length());
    }

    private static void faultOfEachSign() {
        String figures = "0123456789";
        signs("", "Q");
        signs("Q", "012");
        signs("Q0", "PA");
        signs("Q2P", figures);
        signs("Q2A", figures);
        signs("Q2P9", figures);
        signs("Q2A0", figures);
        signs("Q2A99", "PAS");
        signs("Q0P00S", "0");
        signs("Q0P00A00S", "01");
        signs("Q0P00A00P00A00P00A00S", "012345");
        signs("Q0P00S0", "123456789");
        signs("Q0P00S09", figures);
        signs("Q0P00S090", "-");
        signs("Q0P00S099-S011", "-0");
        signs("Q0P00S099-S0110S011", "-1");
        signs("Q0P00S099-S011-S011", "-01");
        signs("Q0P00S099-S011-S0111S011", "-02");
        signs("Q0P00S011-S011-S011-S011-S011-S011-S011-S011", "-0123456");
        signs("Q0P00S011-S0110S011-S0112S011-S0114S011-S011", "-1356");
        signs("Q0P00S011-S0110S0111S0112S0113S0114S0115S011", "-6");
        signs("Q0P00S011-", "PAS");
        signs("Q0P00" + rep("S011-", 7), "PAS");
        signs("Q0P00" + rep("S011-", 8), "PA");
        signs("Q0P00" + rep("A11", 4), "PAS");
        signs("Q0P00" + rep("A11", 5), "S");
        signs("Q0P00" + rep("A11", 5) + rep("S011-", 7), "S");
        signs(LONGEST, "");
    }

    private static void faultOf(String text, int place) {
        SaidLeast x = written(text);
        due("4: fault() of " + text, x.fault(), place);
        due("4: fault() once more of " + text, x.fault(), place);
        due("5: parlour() of " + text + " is LATE", x.parlour() == LATE ? 1 : 0, place == NONE ? 0 : 1);
    }

    private static void faultByHand() {
        faultOf("", 0);
        faultOf("Q", 1);
        faultOf("Q0", NONE);
        faultOf("Q1", NONE);
        faultOf("Q2", NONE);
        faultOf("Q3", 1);
        faultOf("Q/", 1);
        faultOf("Q0P00", NONE);
        faultOf("Q0P99", NONE);
        faultOf("Q0A00", NONE);
        faultOf("Q0A99", NONE);
        faultOf("Q0P", 3);
        faultOf("Q0P0", 4);
        faultOf("Q0P00S", 6);
        faultOf("Q0P00S0", 7);
        faultOf("Q0P00S01", 8);
        faultOf("Q0P00S010", 9);
        faultOf("Q0P00S010-", NONE);
        faultOf("Q0P00S019-", NONE);
        faultOf("Q0P00S090-", NONE);
        faultOf("Q0P00S099-", NONE);
        faultOf("Q0P00S000-", 7);
        faultOf("Q0P00S0:0-", 7);
        faultOf("Q0P00S01:-", 8);
        faultOf("Q0A00S010-", NONE);
        // of several wrong bytes the first one counts
        faultOf("x3", 0);
        faultOf("Q3P0x", 1);
        faultOf("Q0Pxx", 3);
        // a person that is told, but only behind
        faultOf("Q0S010-P00", 2);
        faultOf("Q0P00S110-P00", 6);
        faultOf("Q0P00P00S110-", NONE);
        // a saying that is told, but only behind; itself; none such
        faultOf("Q0P00S0101S010-", 9);
        faultOf("Q0P00S0100", 9);
        faultOf("Q0P00S010-S0101", 14);
        faultOf("Q0P00S010-S0109", 14);
        faultOf("Q0P00S010-S0100", NONE);
        // one that is answered already
        faultOf("Q0P00S010-S0100S0100", 19);
        faultOf("Q0P00S010-S0100S010-S0100", 24);
        faultOf("Q0P00S010-S0100S0101S0102", NONE);
    }

    private static void faultOfCounts() {
        faultOf("Q0" + rep("P00", 6), NONE);
        faultOf("Q0" + rep("A00", 6), NONE);
        faultOf("Q0" + rep("P00", 7), 20);
        faultOf("Q0" + rep("A00", 6) + "P", 20);
        faultOf("Q0" + rep("P00", 5) + rep("S010-", 8) + "P00", NONE);
        faultOf("Q0" + rep("P00", 5) + rep("S010-", 8) + "P00A", 60);
        faultOf("Q0P00" + rep("S010-", 8), NONE);
        faultOf("Q0P00" + rep("S010-", 8) + "S", 45);
        faultOf("Q0P00" + rep("S010-", 8) + "S010-", 45);
        faultOf("Q0P00" + rep("S010-", 8) + "P", 46);
        faultOf("Q0P00" + rep("S010-", 8) + "P00", NONE);
        faultOf("Q0P00" + rep("S010-", 8) + "P00S", 48);
        faultOf(LONGEST, NONE);
        faultOf(LONGEST + "P", 60);
        faultOf(LONGEST + "A", 60);
        faultOf(LONGEST + "S", 60);
        faultOf(LONGEST + "----", 60);
        faultOf(LONGEST.substring(0, 59), 59);
    }

    private static void parlourEdges() {
        for (int law = 0; law <= 2; law++) {
            SaidLeast x = written("Q" + law);
            due("5: nobody, LAW " + law, x.parlour(), 0);
            due("5: LAW", x.about(2), law);
            due("5: no SAYINGS", x.about(1), 0);
        }
        SaidLeast x = written(LONGEST);
        due("5: six PEOPLE", x.parlour(), 6);
        due("5: eight SAYINGS", x.about(1), 8);
        due("5: the last PERSON", x.person(5, 0), 6);
        due("5: the last SAYING's PERSON", x.saying(7, 0), 1);
        due("5: what it ANSWERS", x.saying(7, 3), 6);
        x = of("Q0P00A99S010-S1990S099-");
        due("5: WORDS 00", x.person(0, 0), 0);
        due("5: WORDS 99", x.person(1, 0), 99);
        due("5: P is there", x.person(0, 1), 1);
        due("5: A is away", x.person(1, 1), 0);
        due("5: n of 1", x.saying(0, 1), 1);
        due("5: n of 9", x.saying(1, 1), 9);
        due("5: WORTH 0", x.saying(0, 2), 0);
        due("5: WORTH 9", x.saying(1, 2), 9);
        due("5: ANSWERS none", x.saying(0, 3), NONE);
        due("5: ANSWERS 0", x.saying(1, 3), 0);
        x.say(0);
        x.say(2);
        x.law(2);
        x.keep(0);
        x.keep(1);
        due("5: the same once more", x.parlour(), 2);
        due("5: nothing was said", x.about(5), 0);
        due("5: of no WORTH", x.about(6), 0);
        due("5: no ACTS", x.about(7), 0);
        due("5: none to undo", x.undo(), LATE);
        due("5: none was last", x.about(9), NONE);
        due("5: LAW as told", x.about(2), 0);
        due("5: WORDS as told", x.person(0, 0), 0);
        due("5: slot 0 is gone", x.again(0), LATE);
        due("5: slot 1 is gone", x.again(1), LATE);
        x.wipe();
        write(x, "Q1");
        due("5: a smaller one", x.parlour(), 0);
        due("5: PERSON 0 is no more", x.person(0, 0), UNKNOWN);
        due("5: SAYING 0 is no more", x.saying(0, 0), UNKNOWN);
        due("5: who is there", x.about(3), 0);
        due("5: THE TEXT stays", x.about(10), 2);
    }

    private static void parlourRefused() {
        SaidLeast x = of("Q1P03P04S021-S1120");
        x.say(0);
        x.keep(0);
        x.law(2);
        String before = look(x);
        x.write(1, 'P');
        due("5: not at its end", x.parlour(), LATE);
        x.write(1, 'x');
        due("5: a wrong byte", x.parlour(), LATE);
        x.wipe();
        due("5: an empty one", x.parlour(), LATE);
        write(x, "Q1P03P04S021-S1120");
        same("5: nothing is changed by a FAULT", look(x), before);
        due("5: the ACT stays", x.undo(), 0);
        due("5: what was kept stays", x.again(0), 2);
        due("5: as it was kept", x.about(9), 0);
    }

    // ---- 6 to 9

    private static void aboutEdges() {
        SaidLeast x = of("Q1P03P04A01P03S024-S3130S115-");
        int[] first = {4, 3, 1, 0b1011, 0b1001, 0, 0, 0, 10, NONE, 29};
        for (int what = 0; what <= 10; what++) {
            due("6: about(" + what + ")", x.about(what), first[what]);
        }
        for (int what : FAR) {
            due("6: about(" + what + ")", x.about(what), BAD);
        }
        for (int what : new int[] {11, 12, 32, 42, HIGH}) {
            due("6: about(" + what + ")", x.about(what), BAD);
        }
        x.say(0);
        x.say(1);
        int[] second = {4, 3, 1, 0b1011, 0b1010, 0b011, 7, 2, 13, 1, 29};
        for (int what = 0; what <= 10; what++) {
            due("6: then about(" + what + ")", x.about(what), second[what]);
        }
        x.come(2);
        due("6: the last ACT was one that came", x.about(9), NONE);
        due("6: one more is there", x.about(3), 0b1111);
        due("6: and is LEAST", x.about(4), 0b1110);
        x.go(2);
        due("6: the last ACT was one that went", x.about(9), NONE);
        x.talk(3, 9);
        due("6: the last ACT was TALK", x.about(9), NONE);
        x.undo();
        x.undo();
        x.undo();
        due("6: the last ACT is a SAYING again", x.about(9), 1);
        x.undo();
        due("6: and the one ahead of it", x.about(9), 0);
        x.undo();
        due("6: no ACT", x.about(9), NONE);
        due("6: all six LEAST", of("Q0" + rep("P44", 6)).about(4), 63);
        due("6: all six there", of("Q0" + rep("P44", 6)).about(3), 63);
        due("6: nobody LEAST when all are away", of("Q0" + rep("A44", 6)).about(4), 0);
        due("6: WORDS of nobody", of("Q0" + rep("A44", 6)).about(8), 0);
        due("6: WORDS of all", of("Q0" + rep("P99", 6)).about(8), 594);
    }

    private static void personEdges() {
        SaidLeast x = of("Q0P03A01P03S024-S215-S119-");
        int[][] first = {{3, 1, 1, 0}, {1, 0, 0, 0}, {3, 1, 1, 0}};
        int[][] second = {{5, 1, 0, 4}, {1, 0, 0, 0}, {3, 1, 1, 0}};
        for (int person = 0; person < 3; person++) {
            for (int what = 0; what <= 3; what++) {
                due("7: person(" + person + ", " + what + ")", x.person(person, what), first[person][what]);
            }
        }
        x.say(0);
        for (int person = 0; person < 3; person++) {
            for (int what = 0; what <= 3; what++) {
                due("7: then person(" + person + ", " + what + ")", x.person(person, what), second[person][what]);
            }
            due("7: what below", x.person(person, -1), BAD);
            due("7: what above", x.person(person, 4), BAD);
            due("7: what far below", x.person(person, LOW), BAD);
            due("7: what far above", x.person(person, HIGH), BAD);
        }
        for (int person : new int[] {LOW, -1, 3, 6, 32, HIGH}) {
            for (int what : new int[] {LOW, -1, 0, 1, 2, 3, 4, HIGH}) {
                due("7: UNKNOWN is told first: person(" + person + ", " + what + ")", x.person(person, what), UNKNOWN);
            }
        }
        x = of(LONGEST);
        due("7: the last of six", x.person(5, 0), 6);
        due("7: one behind it", x.person(6, 0), UNKNOWN);
        x = of("Q0A00");
        due("7: one that is away and has said none is not LEAST", x.person(0, 2), 0);
    }

    private static void sayingEdges() {
        SaidLeast x = of("Q0P03P04S198-S0530");
        int[][] first = {{1, 9, 8, NONE, 0}, {0, 5, 3, 0, 0}};
        for (int saying = 0; saying < 2; saying++) {
            for (int what = 0; what <= 4; what++) {
                due("8: saying(" + saying + ", " + what + ")", x.saying(saying, what), first[saying][what]);
            }
            due("8: what below", x.saying(saying, -1), BAD);
            due("8: what above", x.saying(saying, 5), BAD);
            due("8: what far below", x.saying(saying, LOW), BAD);
            due("8: what far above", x.saying(saying, HIGH), BAD);
        }
        for (int saying : new int[] {LOW, -1, 2, 8, 32, HIGH}) {
            for (int what : new int[] {LOW, -1, 0, 1, 2, 3, 4, 5, HIGH}) {
                due("8: UNKNOWN is told first: saying(" + saying + ", " + what + ")", x.saying(saying, what), UNKNOWN);
            }
        }
        x.talk(0, 1);
        x.say(0);
        due("8: it was said", x.saying(0, 4), 1);
        due("8: the other was not", x.saying(1, 4), 0);
        x.undo();
        due("8: undone it was not", x.saying(0, 4), 0);
        x = of(LONGEST);
        due("8: the last of eight", x.saying(7, 1), 1);
        due("8: one behind it", x.saying(8, 1), UNKNOWN);
    }

    private static void lawEdges() {
        SaidLeast x = new SaidLeast();
        due("9: below", x.law(-1), BAD);
        due("9: above", x.law(3), BAD);
        due("9: far below", x.law(LOW), BAD);
        due("9: far above", x.law(HIGH), BAD);
        due("9: it stays", x.about(2), 0);
        due("9: 2", x.law(2), 0);
        due("9: 1", x.law(1), 2);
        due("9: 0", x.law(0), 1);
        due("9: the same", x.law(0), 0);
        due("9: it is 0", x.about(2), 0);
        due("9: it is no ACT", x.about(7), 0);
        due("9: none to undo", x.undo(), LATE);
    }

    // ---- 10 to 16: acts

    private static void saidOnce() {
        SaidLeast x = of("Q0P02S021-");
        due("10: it may be", x.may(0), 1);
        due("11: once", x.say(0), 4);
        due("10: it may be no more", x.may(0), 0);
        due("11: and again", x.say(0), LATE);
        due("11: WORDS stay", x.person(0, 0), 4);
        due("11: ACTS stay", x.about(7), 1);
        x.undo();
        due("11: undone, it may be said", x.say(0), 4);
        x = of("Q0P02S011-S0110");
        x.say(0);
        due("11: an answer once", x.say(1), 4);
        due("11: an answer again", x.say(1), LATE);
        for (int saying : new int[] {LOW, -1, 2, 8, 32, HIGH}) {
            due("10: none such: may(" + saying + ")", x.may(saying), UNKNOWN);
            due("11: none such: say(" + saying + ")", x.say(saying), UNKNOWN);
        }
        x = of("Q0P99S099-");
        due("11: 99 and 9", x.say(0), 108);
    }

    private static void saidByThoseThatMay() {
        SaidLeast x = of("Q0P02P03A00P02S011-S111-S211-S311-");
        int[] may = {1, 0, 0, 1};
        for (int saying = 0; saying < 4; saying++) {
            due("10: may(" + saying + ")", x.may(saying), may[saying]);
        }
        due("11: of one that is not LEAST", x.say(1), LATE);
        due("11: of one that is away", x.say(2), LATE);
        due("11: of one that is LEAST with another", x.say(3), 3);
        due("11: of the only one that is LEAST", x.say(0), 3);
        due("11: all are LEAST now", x.about(4), 0b1011);
        due("11: so it may be", x.say(1), 4);
        x = of("Q0A00S011-");
        due("11: nobody is there", x.say(0), LATE);
    }

    private static void answerRightBehind() {
        SaidLeast x = of("Q0P00P09S011-S1150");
        due("10: ahead of what it ANSWERS", x.may(1), 0);
        due("11: ahead of what it ANSWERS", x.say(1), LATE);
        x.say(0);
        due("10: right behind, of one that is not LEAST", x.may(1), 1);
        due("11: right behind, of one that is not LEAST", x.say(1), 10);
        due("11: WORTH of both", x.about(6), 6);
        x = of("Q0P00P09S011-S0110S0111S1112");
        x.say(0);
        due("11: an answer to an answer only behind it", x.say(2), LATE);
        due("11: an answer by the same", x.say(1), 2);
        due("11: an answer to an answer", x.say(2), 3);
        due("11: and one more", x.say(3), 10);
        x = of("Q0P00A00S011-S1150");
        x.say(0);
        due("10: right behind, of one that is away", x.may(1), 0);
        due("11: right behind, of one that is away", x.say(1), LATE);
        x = of("Q0P00P00S011-S1150");
        due("10: of one that is LEAST, but not right behind", x.may(1), 0);
        x.say(0);
        due("10: of one that is LEAST, right behind", x.may(1), 1);
        x.undo();
        due("10: what it ANSWERS was undone", x.may(1), 0);
    }

    private static void answerNotRightBehind() {
        SaidLeast x = of("Q0P00P09A00P01S011-S1150S015-S315-");
        x.say(0);
        x.say(3);
        due("11: a SAYING between", x.say(1), LATE);
        x.undo();
        due("10: it is undone", x.may(1), 1);
        x.talk(0, 1);
        due("11: TALK between", x.say(1), LATE);
        x.undo();
        due("10: it is undone", x.may(1), 1);
        x.come(2);
        due("11: one came between", x.say(1), LATE);
        x.undo();
        due("10: it is undone", x.may(1), 1);
        x.go(3);
        due("11: one went between", x.say(1), LATE);
        x.come(3);
        due("11: though it came back", x.say(1), LATE);
        x.undo();
        x.undo();
        x.law(2);
        due("11: another LAW is nothing between", x.say(1), 10);
        x = of("Q0P00P09A00S011-S1150");
        x.say(0);
        x.talk(1, 1);
        x.say(0);
        x.come(0);
        x.go(2);
        x.judge(1, 1);
        x.most(9);
        due("11: what was refused or only looked at is nothing between", x.say(1), 10);
    }

    private static void talkEdges() {
        SaidLeast x = of("Q0P00P09A00");
        due("12: 0 WORDS", x.talk(0, 0), BAD);
        due("12: 10 WORDS", x.talk(0, 10), BAD);
        due("12: far fewer", x.talk(0, LOW), BAD);
        due("12: far more", x.talk(0, HIGH), BAD);
        due("12: nothing was said", x.about(8), 9);
        due("12: not LEAST", x.talk(1, 1), LATE);
        due("12: away", x.talk(2, 1), LATE);
        due("12: not LEAST, 0 WORDS", x.talk(1, 0), BAD);
        due("12: away, 10 WORDS", x.talk(2, 10), BAD);
        due("12: none such", x.talk(3, 1), UNKNOWN);
        due("12: none such, 0 WORDS", x.talk(3, 0), UNKNOWN);
        due("12: none such, 10 WORDS", x.talk(-1, 10), UNKNOWN);
        due("12: far from any", x.talk(LOW, 1), UNKNOWN);
        due("12: far from any", x.talk(HIGH, 1), UNKNOWN);
        due("12: no ACTS", x.about(7), 0);
        due("12: 9 WORDS", x.talk(0, 9), 9);
        due("12: now both are LEAST", x.about(4), 3);
        due("12: 1 WORD", x.talk(1, 1), 10);
        due("12: of no WORTH", x.about(6), 0);
        due("12: two ACTS", x.about(7), 2);
        due("12: nobody is there", of("Q0A00").talk(0, 1), LATE);
    }

    private static void comeByLaw0() {
        SaidLeast x = of("Q0P50P60A99");
        due("13: LAW 0", x.come(2), 0);
        due("13: what it had said is forgotten", x.person(2, 0), 0);
        due("13: it is LEAST", x.about(4), 4);
        due("13: nobody there", of("Q0A99").come(0), 0);
    }

    private static void comeByLaw1() {
        due("13: LAW 1, the mean of one", of("Q1P50A99").come(1), 50);
        due("13: LAW 1, the mean of two", of("Q1P50P60A99").come(2), 55);
        due("13: LAW 1, a half is cut", of("Q1P01P02A99").come(2), 1);
        due("13: LAW 1, two thirds are cut", of("Q1P00P01P01A99").come(3), 0);
        due("13: LAW 1, below one", of("Q1P00P00P00P00P04A99").come(5), 0);
        due("13: LAW 1, just one", of("Q1P00P00P00P00P05A99").come(5), 1);
        due("13: LAW 1, none of those that are away", of("Q1P10A80A90").come(1), 10);
        due("13: LAW 1, nobody there", of("Q1A99A50").come(0), 0);
    }

    private static void comeByLaw2() {
        due("13: LAW 2, the most of one", of("Q2P50A99").come(1), 50);
        due("13: LAW 2, the first has most", of("Q2P60P50P00A99").come(3), 60);
        due("13: LAW 2, the last has most", of("Q2A99P00P50P60").come(0), 60);
        due("13: LAW 2, none of those that are away", of("Q2P10A80A90").come(1), 10);
        due("13: LAW 2, all have said none", of("Q2P00P00A90").come(2), 0);
        due("13: LAW 2, nobody there", of("Q2A99A50").come(0), 0);
    }

    private static void comeEdges() {
        SaidLeast x = of("Q2P10A80A90");
        due("13: one that is there", x.come(0), LATE);
        due("13: none such", x.come(3), UNKNOWN);
        due("13: none such", x.come(-1), UNKNOWN);
        due("13: far from any", x.come(LOW), UNKNOWN);
        due("13: far from any", x.come(HIGH), UNKNOWN);
        due("13: no ACTS", x.about(7), 0);
        due("13: it comes", x.come(1), 10);
        due("13: it is there now", x.come(1), LATE);
        x.law(0);
        due("13: by the LAW that is now", x.come(2), 0);
        due("13: all are there", x.about(3), 7);
        due("13: two ACTS", x.about(7), 2);
        x = of("Q2P01S012-A00");
        x.say(0);
        x.go(0);
        x.come(1);
        x.come(0);
        due("13: one that comes back has not said more", x.person(0, 0), 0);
        due("13: but what it said was said", x.about(5), 1);
        due("13: and has its WORTH", x.person(0, 3), 2);
    }

    private static void goEdges() {
        SaidLeast x = of("Q0P02P05A09");
        due("14: one that is away", x.go(2), LATE);
        due("14: none such", x.go(3), UNKNOWN);
        due("14: none such", x.go(-1), UNKNOWN);
        due("14: far from any", x.go(LOW), UNKNOWN);
        due("14: far from any", x.go(HIGH), UNKNOWN);
        due("14: no ACTS", x.about(7), 0);
        due("14: how many are there", x.go(0), 1);
        due("14: it is away now", x.go(0), LATE);
        due("14: the last one", x.go(1), 0);
        due("14: its WORDS stay", x.person(1, 0), 5);
        due("14: two ACTS", x.about(7), 2);
    }

    private static void undoOfEachKind() {
        SaidLeast x = of("Q2P02P05A09S011-S0180");
        due("15: none so far", x.undo(), LATE);
        String first = look(x);
        x.say(0);
        String second = look(x);
        x.say(1);
        String third = look(x);
        x.come(2);
        String fourth = look(x);
        x.go(1);
        String fifth = look(x);
        x.talk(0, 7);
        due("15: TALK", x.undo(), 4);
        same("15: TALK is undone", look(x), fifth);
        due("15: one that went", x.undo(), 3);
        same("15: going is undone", look(x), fourth);
        due("15: one that came", x.undo(), 2);
        same("15: coming is undone, its WORDS are back", look(x), third);
        due("15: an answer", x.undo(), 1);
        same("15: an answer is undone", look(x), second);
        due("15: a SAYING", x.undo(), 0);
        same("15: a SAYING is undone", look(x), first);
        due("15: no more", x.undo(), LATE);
        same("15: nothing changed", look(x), first);
    }

    private static void undoDownToNone() {
        SaidLeast x = of("Q0P00");
        x.talk(0, 3);
        due("15: the only one", x.undo(), 0);
        due("15: once more", x.undo(), LATE);
        due("15: and once more", x.undo(), LATE);
        due("15: WORDS as told", x.person(0, 0), 0);
        x.talk(0, 4);
        due("15: one more ACT", x.about(7), 1);
        due("15: it is undone", x.undo(), 0);
        x = of("Q0P00A00");
        x.law(2);
        x.come(1);
        x.law(1);
        x.undo();
        due("15: LAW is none of it", x.about(2), 1);
    }

    private static void twelveActsAndMore() {
        for (int more = 0; more <= 13; more++) {
            SaidLeast x = of("Q0P00");
            int acts = 12 + more;
            for (int i = 1; i <= acts; i++) {
                due("15: WORDS behind " + i, x.talk(0, 1), i);
                due("15: ACTS behind " + i, x.about(7), Math.min(i, 12));
            }
            for (int left = 11; left >= 0; left--) {
                due("15: undone, left of " + acts, x.undo(), left);
                due("15: its WORDS", x.person(0, 0), more + left);
            }
            due("15: no more of " + acts, x.undo(), LATE);
            due("15: what is forgotten is not undone", x.person(0, 0), more);
        }
    }

    private static void forgottenOfEachKind() {
        for (int kind = 0; kind < 4; kind++) {
            SaidLeast x = of("Q0P00P09A50S011-");
            switch (kind) {
                case 0: x.say(0); break;
                case 1: x.talk(0, 1); break;
                case 2: x.come(2); break;
                default: x.go(1); break;
            }
            String behindIt = look(x);
            for (int i = 0; i < 12; i++) {
                if (i % 2 == 0) {
                    x.go(0);
                } else {
                    x.come(0);
                }
            }
            due("15: the row is full", x.about(7), 12);
            for (int left = 11; left >= 0; left--) {
                due("15: twelve are undone", x.undo(), left);
            }
            due("15: the first one is forgotten", x.undo(), LATE);
            same("15: it stands, of kind " + kind, withoutActs(look(x)), withoutActs(behindIt));
        }
    }

    private static void rowWrapsAround() {
        SaidLeast x = of("Q0P00");
        int[] words = new int[100];
        int acts = 0;
        int first = 0;
        for (int round = 0; round < 12; round++) {
            for (int i = 0; i < 5; i++) {
                words[acts + 1] = x.talk(0, 1 + round % 9);
                acts++;
            }
            first = Math.max(first, acts - 12);
            for (int i = 0; i < round % 4; i++) {
                acts--;
                due("15: undone in round " + round, x.undo(), acts - first);
                due("15: WORDS in round " + round, x.person(0, 0), words[acts]);
            }
            due("15: ACTS in round " + round, x.about(7), acts - first);
        }
        while (acts > first) {
            acts--;
            due("15: undone at the end", x.undo(), acts - first);
            due("15: WORDS at the end", x.person(0, 0), words[acts]);
        }
        due("15: none is left", x.undo(), LATE);
    }

    private static void judgeNumbers() {
        SaidLeast x = of("Q0P00" + "S011-S0110S0111S0112S0113S0114S0115S0116");
        due("16: n of 0", x.judge(0, 0), BAD);
        due("16: n of 9", x.judge(9, 0), BAD);
        due("16: n far below", x.judge(LOW, 0), BAD);
        due("16: n far above", x.judge(HIGH, 0), BAD);
        due("16: n of 1", x.judge(1, 0), NONE);
        due("16: n of 8", x.judge(8, 1_234_567), NONE);
        due("16: row 0 of 1", x.judge(1, 0), NONE);
        due("16: row 0 of 8", x.judge(8, 0), 1);
        due("16: a negative row", x.judge(8, -1), BAD);
        due("16: a far negative row", x.judge(8, LOW), BAD);
        int power = 1;
        for (int n = 1; n <= 8; n++) {
            power *= 10;
            due("16: n figures at most, n = " + n, x.judge(n, power - 1), 0);
            due("16: one figure more, n = " + n, x.judge(n, power), BAD);
            due("16: far more figures, n = " + n, x.judge(n, HIGH), BAD);
            due("16: leading zeros, n = " + n, x.judge(n, 0), n == 1 ? NONE : 1);
            due("16: below, n = " + n, x.judge(n, -1), BAD);
        }
    }

    private static void judgeRows() {
        SaidLeast x = of("Q0P00P00S011-S112-S0130S015-");
        due("16: leading zero", x.judge(2, 1), NONE);
        due("16: 0, 2, 1", x.judge(3, 21), NONE);
        due("16: 0, 1, 2: no answer right behind", x.judge(3, 12), 2);
        due("16: 0, 0: said already", x.judge(2, 0), 1);
        due("16: an answer at first", x.judge(1, 2), 0);
        due("16: 0, 3: not LEAST", x.judge(2, 3), 1);
        due("16: there is none such", x.judge(1, 4), 0);
        due("16: there is none such behind", x.judge(2, 14), 1);
        due("16: there is none such, 8", x.judge(2, 8), 1);
        due("16: there is none such, 9", x.judge(3, 19), 2);
        due("16: the first one that may not be, of several", x.judge(4, 199), 2);
        due("16: the last one of a row", x.judge(4, 130), 3);
        x.say(0);
        due("16: from now on: said already", x.judge(1, 0), 0);
        due("16: from now on: the answer", x.judge(1, 2), NONE);
        due("16: from now on: the answer, the other, the last", x.judge(2, 21), NONE);
        x.talk(1, 1);
        due("16: from now on: no answer behind TALK", x.judge(1, 2), 0);
        x.go(0);
        due("16: from now on: away", x.judge(1, 3), 0);
        due("16: from now on: the one that is there", x.judge(1, 1), NONE);
        due("16: nothing is said", x.about(5), 1);
        due("16: no ACTS more", x.about(7), 3);
    }

    // ---- 17 to 21: orders

    private static void mostEdges() {
        SaidLeast x = of("Q0P00" + rep("S099-", 8));
        due("17: t of 0", x.most(0), 0);
        due("17: t of 8", x.most(8), 0);
        due("17: t of 9", x.most(9), 9);
        due("17: t of 71", x.most(71), 63);
        due("17: t of 72", x.most(72), 72);
        for (int t : FAR) {
            due("17: t below: most(" + t + ")", x.most(t), BAD);
            due("18: t below: mostAt(" + t + ")", x.mostAt(t, 0), BAD);
        }
        for (int t : new int[] {73, 74, 128, HIGH}) {
            due("17: t above: most(" + t + ")", x.most(t), BAD);
            due("18: t above: mostAt(" + t + ")", x.mostAt(t, 0), BAD);
            due("18: t above, i below: mostAt(" + t + ")", x.mostAt(t, -1), BAD);
        }
    }

    private static void mostLimits() {
        SaidLeast x = of("Q0P00P05S011-S1190");
        due("17: 1 WORD", x.most(1), 1);
        due("17: an answer of one that is not LEAST", x.most(2), 10);
        x.say(0);
        due("17: right behind what was said last", x.most(1), 9);
        x.talk(0, 1);
        due("17: not right behind any more", x.most(72), 0);
        x.undo();
        x.say(1);
        due("17: all was said", x.most(72), 0);
        due("17: nobody there", of("Q0A00S019-").most(72), 0);
        due("17: all of no WORTH", of("Q0P00S010-S010-").most(72), 0);
        due("17: no TALK to let one speak", of("Q0P00P01S115-").most(72), 0);
        due("17: one must hold out till the other spoke", of("Q0P00P01S010-S115-").most(2), 5);
        due("17: an answer that is away", of("Q0P00A00S011-S1190").most(72), 1);
        // the second one is LEAST again only when the first one has said its nine WORDS
        int[] worth = {0, 2, 2, 2, 2, 2, 2, 2, 2, 3, 5, 7, 9, 9};
        for (int t = 0; t < worth.length; t++) {
            due("17: in " + t + " WORDS", of("Q0P00P00S093-S112-S112-S112-").most(t), worth[t]);
        }
    }

    private static void order(SaidLeast x, int t, int... row) {
        for (int i = 0; i < row.length; i++) {
            due("18: mostAt(" + t + ", " + i + ")", x.mostAt(t, i), row[i]);
        }
        for (int i : new int[] {row.length, row.length + 1, 8, 9, 32, HIGH, -1, -2, LOW}) {
            due("18: none such: mostAt(" + t + ", " + i + ")", x.mostAt(t, i), NONE);
        }
    }

    private static void mostAtEdges() {
        order(of("Q0P00S011-"), 0);
        order(of("Q0P00S011-"), 1, 0);
        order(of("Q0P00S011-"), 72, 0);
        order(of("Q0A00S011-"), 72);
        order(of("Q0"), 72);
        order(of("Q0P00S011-S0110S0111S0112S0113S0114S0115S0116"), 72, 0, 1, 2, 3, 4, 5, 6, 7);
        order(of("Q0P00S011-S0110S0111S0112S0113S0114S0115S0116"), 7, 0, 1, 2, 3, 4, 5, 6);
        order(of("Q0P00" + rep("S099-", 8)), 72, 0, 1, 2, 3, 4, 5, 6, 7);
        order(of("Q0P00" + rep("S099-", 8)), 71, 0, 1, 2, 3, 4, 5, 6);
        SaidLeast x = of("Q0P00P09S011-S1150S012-");
        order(x, 72, 0, 1, 2);
        x.say(0);
        order(x, 72, 1, 2);
        order(x, 1, 1);
        x.say(1);
        order(x, 72, 2);
        x.say(2);
        order(x, 72);
    }

    private static void mostAtOfLikeOnes() {
        order(of("Q0P00S010-S010-"), 72);
        order(of("Q0P00S015-S010-"), 72, 0);
        order(of("Q0P00S010-S015-"), 72, 0, 1);
        order(of("Q0P00S010-S015-"), 1, 1);
        order(of("Q0P00S015-S015-"), 1, 0);
        order(of("Q0P00S015-S015-"), 2, 0, 1);
        order(of("Q0P00S025-S012-S013-"), 2, 0);
        order(of("Q0P00S012-S013-S025-"), 2, 0, 1);
        order(of("Q0P00P00S111-S011-"), 72, 0, 1);
        order(of("Q0P00P00S010-S111-S015-"), 72, 0, 1, 2);
        order(of("Q0P00S011-S011-S0110"), 3, 0, 2, 1);
        order(of("Q0P00S011-S011-S0111"), 3, 0, 1, 2);
        order(of("Q0P01P00S015-S111-"), 72, 1, 0);
        order(of("Q0P00S011-S011-S095-S0950"), 11, 0, 1, 2);
        order(of("Q0P00S091-S015-"), 1, 1);
    }

    /** What an earlier call looked at must not be seen by a later one. */
    private static void ordersOneBehindTheOther() {
        SaidLeast x = of("Q0P00S091-S015-");
        order(x, 10, 0, 1);
        order(x, 1, 1);
        order(x, 9, 1);
        order(x, 0);
        order(x, 72, 0, 1);
        SaidLeast y = of("Q0P00P01A00S011-S115-");
        due("17: both", y.most(72), 6);
        due("19: behind the first", y.soon(1), 1);
        due("21: both", y.each(), 3);
        y.come(2);
        y.talk(0, 1);
        due("17: the one that came bars both", y.most(72), 0);
        due("19: the one that came bars the first", y.soon(0), NONE);
        due("19: the one that came bars the second", y.soon(1), NONE);
        due("21: the one that came bars both", y.each(), 0);
        y.go(2);
        due("19: now both are LEAST", y.soon(1), 0);
        due("21: now both are said", y.each(), 3);
    }

    private static void soonEdges() {
        SaidLeast x = of("Q0P00P02A00S031-S115-S019-S1122S211-S2114");
        due("19: it may be said now", x.soon(0), 0);
        due("19: it may be said now", x.soon(2), 0);
        due("19: the other has said too little", x.soon(1), 3);
        due("19: an answer", x.soon(3), 1);
        due("19: of one that is away", x.soon(4), NONE);
        due("19: an answer of one that is away", x.soon(5), NONE);
        for (int saying : new int[] {LOW, -1, 6, 8, 32, HIGH}) {
            due("19: none such: soon(" + saying + ")", x.soon(saying), UNKNOWN);
        }
        x.say(2);
        due("19: it was said", x.soon(2), NONE);
        due("19: an answer that may be said now", x.soon(3), 0);
        x.talk(0, 1);
        due("19: an answer that can't be said any more", x.soon(3), NONE);
        due("19: both are LEAST now", x.soon(1), 0);
        due("19: it can't be said: nobody goes on", of("Q0P00P01S111-").soon(0), NONE);
        due("19: fewest WORDS, not fewest SAYINGS", of("Q0P00P02S091-S011-S011-S111-").soon(3), 2);
        due("19: behind all others", of("Q0P00P63" + rep("S091-", 7) + "S111-").soon(7), 63);
        due("19: one WORD short", of("Q0P00P64" + rep("S091-", 7) + "S111-").soon(7), NONE);
    }

    private static void needEdges() {
        SaidLeast x = of("Q0P02P05A00P09P05");
        due("20: one that is LEAST", x.need(0), 0);
        due("20: one that has said more than one other", x.need(1), 3);
        due("20: likewise", x.need(4), 3);
        due("20: one that has said most", x.need(3), 15);
        due("20: one that is away", x.need(2), LATE);
        for (int person : new int[] {LOW, -1, 5, 6, 32, HIGH}) {
            due("20: none such: need(" + person + ")", x.need(person), UNKNOWN);
        }
        due("20: the only one that is there", of("Q0A00P99").need(1), 0);
        due("20: all are LEAST", of("Q0" + rep("P07", 6)).need(5), 0);
        due("20: the most that can be told", of("Q0" + rep("P00", 5) + "P99").need(5), 495);
        SaidLeast y = of("Q0P00A50");
        due("20: away", y.need(1), LATE);
        y.law(1);
        y.come(1);
        due("20: it is there now", y.need(1), 0);
        y.go(0);
        due("20: the other is away now", y.need(0), LATE);
    }

    private static void eachEdges() {
        due("21: nobody told", of("Q0").each(), 0);
        due("21: nobody there", of("Q0A00S019-").each(), 0);
        SaidLeast x = of("Q0P00S011-S019-");
        x.say(0);
        x.go(0);
        due("21: nobody there any more, what was said so far", x.each(), 1);
        x.undo();
        due("21: it is there, says the other, too", x.each(), 3);
        x.say(1);
        due("21: all was said", x.each(), 3);
        due("21: no SAYINGS", of("Q0P00P00").each(), 0);
        due("21: only of one that is not LEAST", of("Q0P00P01S119-").each(), 0);
        due("21: one that is away says nothing", of("Q0A00P00S011-S119-").each(), 2);
        due("21: an ANSWER is said as if it ANSWERED none", of("Q0P00P00S010-S1190").each(), 2);
        due("21: though what it ANSWERS was said, of one that is not LEAST", answered().each(), 1);
        due("21: all eight", of("Q0P00" + rep("S011-", 8)).each(), 255);
        due("21: the sixth one alone", of("Q0" + rep("A00", 5) + "P00S511-").each(), 1);
        due("21: all six", of("Q0" + rep("P00", 6) + "S511-S411-S311-S211-S111-S011-").each(), 63);
    }

    private static SaidLeast answered() {
        SaidLeast x = of("Q0P00P05S011-S1190");
        x.say(0);
        return x;
    }

    private static void eachOfLikeOnes() {
        due("21: of no WORTH it holds out", of("Q0P00S010-").each(), 0);
        due("21: of like ones the least", of("Q0P00P00S019-S019-").each(), 1);
        due("21: of like ones the least, though the other goes on", of("Q0P00P05S091-S091-S119-").each(), 0b101);
        due("21: of like ones it holds out, though another loses by it", of("Q0P00P01S010-S119-").each(), 0);
        due("21: it says what has WORTH, and the other goes on", of("Q0P00P01S011-S119-").each(), 3);
        due("21: one holds out, so the next of them is asked", of("Q0P00P00S010-S111-").each(), 2);
        due("21: of like ones the least SAYING, though of no WORTH", of("Q0P00P01S010-S111-S015-").each(), 0b111);
        due("21: of two ways to a like end the least SAYING first", of("Q0P00P01S012-S012-S111-").each(), 0b111);
    }

    // ---- 22 and 23: guessed

    private static void outNumbers() {
        SaidLeast x = of("Q0P00P00A00");
        due("22: t of 0", x.out(0, 3), 1);
        due("22: t of 0, one alone", x.out(0, 1), 0);
        due("22: t of 54", x.out(54, 3), 0);
        due("22: t below", x.out(-1, 3), BAD);
        due("22: t above", x.out(55, 3), BAD);
        due("22: t far below", x.out(LOW, 3), BAD);
        due("22: t far above", x.out(HIGH, 3), BAD);
        due("22: no people", x.out(0, 0), 0);
        due("22: people that there are not", x.out(0, 8), BAD);
        due("22: people that there are not, with others", x.out(0, 11), BAD);
        due("22: people below", x.out(0, -1), BAD);
        due("22: people far below", x.out(0, LOW), BAD);
        due("22: people far above", x.out(0, HIGH), BAD);
        due("22: one that is away", x.out(0, 4), 0);
        due("22: one that is away, with others", x.out(0, 7), 0);
        x = of("Q0" + rep("P00", 6));
        due("22: all six said 0", x.out(0, 63), 1);
        due("22: all six said 9", x.out(54, 63), 1);
        due("22: one of six said 8", x.out(53, 1), 1);
        due("22: not all of six", x.out(53, 63), 0);
        due("22: a seventh", x.out(0, 64), BAD);
        due("22: nobody there", of("Q0A00").out(0, 0), 1);
        due("22: nobody there, t of 1", of("Q0A00").out(1, 0), 0);
        due("22: nobody there, one that is away", of("Q0A00").out(0, 1), 0);
    }

    private static void outByHand() {
        SaidLeast x = of("Q0P00P03");
        due("22: 6 and 3", x.out(9, 3), 1);
        due("22: the first says 0 .. 5", x.out(9, 1), 6);
        due("22: the first says 7 .. 9", x.out(9, 2), 3);
        due("22: the first says 9, the other 6", x.out(15, 3), 1);
        due("22: both would have to say more than 9", x.out(17, 3), 0);
        due("22: nine apart", of("Q0P00P09").out(9, 3), 1);
        due("22: ten apart", of("Q0P00P10").out(9, 3), 0);
        due("22: ten apart, the first stays LEAST", of("Q0P00P10").out(9, 1), 10);
        due("22: of one alone", of("Q0P50").out(9, 1), 1);
        due("22: of one alone, 10", of("Q0P50").out(10, 1), 0);
        due("22: one of six said none, the others 10", of("Q0" + rep("P00", 6)).out(10, 1), 126);
        due("22: WORDS of one that is away count for nothing", of("Q0A00P09").out(3, 2), 1);
    }

    /** Each way leaves just one set LEAST, so all sets together have all ways. */
    private static void outSums() {
        for (String text : new String[] {"Q0P00P03P01", "Q0P07P00A02P09", "Q0P00P00P00P00P00P00", "Q0A00A01", "Q0P99P90P95P92P99P99"}) {
            SaidLeast x = of(text);
            int there = Integer.bitCount(x.about(3));
            int sets = 1 << x.about(0);
            for (int t : new int[] {0, 1, 9, 27, 54}) {
                long sum = 0;
                for (int people = 0; people < sets; people++) {
                    sum += x.out(t, people);
                }
                due("22: all ways of " + t + " in " + text, sum, ways(there, t));
            }
        }
    }

    private static long ways(int there, int t) {
        if (there == 0) {
            return t == 0 ? 1 : 0;
        }
        long sum = 0;
        for (int words = 0; words <= 9 && words <= t; words++) {
            sum += ways(there - 1, t - words);
        }
        return sum;
    }

    private static void fraction(SaidLeast x, int[] call, long above, long below) {
        String told = "23: chance(" + call[0] + ", " + call[1] + ", " + call[2];
        due(told + ", true)", x.chance(call[0], call[1], call[2], true), above);
        due(told + ", false)", x.chance(call[0], call[1], call[2], false), below);
    }

    private static void chanceNumbers() {
        SaidLeast x = of("Q0P00P01A00");
        for (boolean upper : new boolean[] {true, false}) {
            due("23: n below", x.chance(0, -1, 5, upper), BAD);
            due("23: n above", x.chance(0, 7, 5, upper), BAD);
            due("23: x below", x.chance(0, 3, -1, upper), BAD);
            due("23: x above", x.chance(0, 3, 11, upper), BAD);
            due("23: n far below", x.chance(0, LOW, 5, upper), BAD);
            due("23: n far above", x.chance(0, HIGH, 5, upper), BAD);
            due("23: x far below", x.chance(0, 3, LOW, upper), BAD);
            due("23: x far above", x.chance(0, 3, HIGH, upper), BAD);
            due("23: one that is away, n above", x.chance(2, 7, 5, upper), BAD);
            for (int person : new int[] {LOW, -1, 3, 6, 32, HIGH}) {
                due("23: none such", x.chance(person, 3, 5, upper), UNKNOWN);
                due("23: none such is told first", x.chance(person, 7, 11, upper), UNKNOWN);
            }
        }
        fraction(x, new int[] {0, 0, 0}, 1, 1);
        fraction(x, new int[] {0, 0, 10}, 1, 1);
        fraction(x, new int[] {1, 0, 5}, 0, 1);
        fraction(x, new int[] {2, 0, 5}, 0, 1);
        fraction(x, new int[] {2, 6, 5}, 0, 1);
        fraction(x, new int[] {0, 1, 0}, 0, 1);
        fraction(x, new int[] {0, 1, 10}, 1, 1);
        fraction(x, new int[] {1, 1, 0}, 1, 1);
        fraction(of("Q0A00"), new int[] {0, 0, 0}, 0, 1);
        fraction(of("Q0A00"), new int[] {0, 6, 3}, 0, 1);
        fraction(of("Q0P00"), new int[] {0, 6, 3}, 1, 1);
    }

    private static void chanceByHand() {
        // six turns of the first one; the other is LEAST if five of them or more were of 2 WORDS
        SaidLeast x = of("Q0P00P11");
        fraction(x, new int[] {1, 6, 3}, 16_807, 40_000);
        fraction(x, new int[] {0, 6, 3}, 882_351, 1_000_000);
        fraction(x, new int[] {1, 6, 0}, 1, 1);
        fraction(x, new int[] {0, 6, 0}, 0, 1);
        fraction(x, new int[] {1, 6, 10}, 0, 1);
        fraction(x, new int[] {0, 6, 10}, 1, 1);
        fraction(x, new int[] {1, 5, 3}, 0, 1);
        // of one turn x tenths, told in least terms
        SaidLeast y = of("Q0P00P01");
        long[][] tenths = {{0, 1}, {1, 10}, {1, 5}, {3, 10}, {2, 5}, {1, 2}, {3, 5}, {7, 10}, {4, 5}, {9, 10}, {1, 1}};
        for (int tenth = 0; tenth <= 10; tenth++) {
            fraction(y, new int[] {0, 1, tenth}, tenths[tenth][0], tenths[tenth][1]);
        }
    }

    private static void chanceOfLikeLeast() {
        // both LEAST: the least PERSON says; then the other does, 1 against 2 WORDS or like ones
        fraction(of("Q0P01P01"), new int[] {0, 1, 5}, 0, 1);
        fraction(of("Q0P01P01"), new int[] {1, 1, 5}, 1, 1);
        fraction(of("Q0P01P01"), new int[] {0, 2, 5}, 3, 4);
        fraction(of("Q0P01P01"), new int[] {0, 2, 3}, 79, 100);
        fraction(of("Q0P01P01"), new int[] {1, 2, 3}, 79, 100);
        fraction(of("Q0P01P01"), new int[] {0, 6, 0}, 1, 1);
        fraction(of("Q0P01P01"), new int[] {0, 6, 10}, 1, 1);
        fraction(of("Q0" + rep("P00", 6)), new int[] {5, 5, 3}, 1, 1);
        fraction(of("Q0" + rep("P00", 6)), new int[] {0, 5, 3}, 0, 1);
        fraction(of("Q0" + rep("P00", 6)), new int[] {5, 6, 10}, 1, 1);
        // those that are away do not say, even if they have said less
        fraction(of("Q0A00P01P01"), new int[] {1, 1, 5}, 0, 1);
        fraction(of("Q0A00P01P01"), new int[] {2, 1, 5}, 1, 1);
    }

    private static void fractionsInLeastTerms() {
        for (String text : new String[] {"Q0P00P01", "Q0P00P00P02", "Q0P03P01A00P02P01P04"}) {
            for (int turns = 0; turns <= 6; turns++) {
                SaidLeast x = of(text);
                for (int tenths = 0; tenths <= 10; tenths++) {
                    for (int person = 0; person < x.about(0); person++) {
                        leastTerms(x, person, turns, tenths);
                    }
                }
            }
        }
    }

    private static void leastTerms(SaidLeast x, int person, int turns, int tenths) {
        long above = x.chance(person, turns, tenths, true);
        long below = x.chance(person, turns, tenths, false);
        String told = "23: chance(" + person + ", " + turns + ", " + tenths + ") = " + above + " / " + below;
        due(told + " is in 0 .. 1", above >= 0 && below >= 1 && above <= below ? 1 : 0, 1);
        due(told + " is in least terms", common(above, below), 1);
        due(told + " is of so many turns", (long) Math.pow(10, turns) % below, 0);
    }

    private static long common(long a, long b) {
        return b == 0 ? a : common(b, a % b);
    }

    // ---- 24 and 25: slots

    private static void keepEdges() {
        SaidLeast x = of("Q0P00P01A00");
        for (int slot : new int[] {LOW, -9, -1, 2, 3, 32, 33, HIGH}) {
            due("24: no such SLOT: keep(" + slot + ")", x.keep(slot), UNKNOWN);
            due("25: no such SLOT: again(" + slot + ")", x.again(slot), UNKNOWN);
        }
        due("25: none kept in 0", x.again(0), LATE);
        due("25: none kept in 1", x.again(1), LATE);
        due("24: SLOT 0", x.keep(0), 2);
        due("25: none kept in 1 still", x.again(1), LATE);
        x.go(0);
        due("24: SLOT 1", x.keep(1), 1);
        due("24: ACTS stay", x.about(7), 1);
        due("24: they can be undone", x.undo(), 0);
        due("24: over what was kept", x.keep(1), 2);
        due("25: the later one", x.again(1), 2);
        due("24: nobody there", of("Q0A00").keep(1), 0);
        SaidLeast y = new SaidLeast();
        y.law(2);
        due("24: nobody told", y.keep(1), 0);
        y.law(1);
        due("25: nobody told", y.again(1), 0);
        due("25: but LAW", y.about(2), 2);
    }

    private static void againEdges() {
        SaidLeast x = of("Q1P00P05A30S011-S1190S014-");
        x.say(0);
        x.keep(1);
        x.talk(0, 5);
        x.come(2);
        x.law(2);
        due("25: how many are there", x.again(1), 2);
        due("25: WORDS", x.person(0, 0), 1);
        due("25: WORDS of one that came behind", x.person(2, 0), 30);
        due("25: who is there", x.about(3), 3);
        due("25: what was said", x.about(5), 1);
        due("25: which one last", x.about(9), 0);
        due("25: LAW", x.about(2), 1);
        due("25: no ACTS", x.about(7), 0);
        due("25: none to undo", x.undo(), LATE);
        due("25: an answer to the one last", x.say(1), 6);
        due("25: one ACT then", x.about(7), 1);
        due("25: it is undone", x.undo(), 0);
        due("25: no more", x.undo(), LATE);
        due("25: THE TEXT is as it was", x.about(10), 26);
        x.talk(0, 1);
        x.keep(0);
        x.again(0);
        due("25: none was last", x.about(9), NONE);
        due("25: so no answer", x.may(1), 0);
    }

    private static void keptIsNotChanged() {
        SaidLeast x = of("Q2P00P05A30S011-S1190S014-");
        x.say(0);
        x.keep(0);
        x.again(0);
        String kept = look(x);
        for (int round = 0; round < 3; round++) {
            x.law(round);
            x.say(1);
            x.say(2);
            x.talk(1, 9);
            x.come(2);
            x.go(1);
            x.undo();
            due("25: how many are there", x.again(0), 2);
            same("25: as it was kept, round " + round, look(x), kept);
        }
        x.keep(1);
        x.talk(0, 9);
        x.again(1);
        same("25: kept once more", look(x), kept);
        x.wipe();
        write(x, "Q");
        due("25: a FAULT", x.parlour(), LATE);
        due("25: what was kept stays", x.again(0), 2);
        x.write(1, '0');
        due("25: another PARLOUR", x.parlour(), 0);
        due("25: what was kept is gone", x.again(0), LATE);
        due("25: of both", x.again(1), LATE);
    }

    private static void slotsAreTwo() {
        SaidLeast x = of("Q0P00P00A00");
        x.talk(0, 1);
        x.keep(0);
        x.talk(1, 2);
        x.go(0);
        x.keep(1);
        due("25: the first", x.again(0), 2);
        due("25: its WORDS", x.about(8), 1);
        due("25: the second", x.again(1), 1);
        due("25: its WORDS", x.about(8), 2);
        due("25: the first once more", x.again(0), 2);
        due("25: its WORDS", x.about(8), 1);
    }

    // ---- part 4: what is refused changes nothing; part 2: nothing is changed

    /** All that can be seen without changing anything. */
    private static String look(SaidLeast x) {
        StringBuilder seen = new StringBuilder();
        for (int what = 0; what <= 10; what++) {
            seen.append(x.about(what)).append(what == 6 || what == 7 ? '|' : ' ');
        }
        int people = x.about(0);
        for (int person = 0; person < people; person++) {
            seen.append('p').append(x.person(person, 0)).append(' ');
        }
        int sayings = x.about(1);
        for (int saying = 0; saying < sayings; saying++) {
            seen.append('s').append(x.may(saying)).append(' ');
        }
        return seen.append('f').append(x.fault()).toString();
    }

    private static String withoutActs(String seen) {
        return seen.replaceFirst("\\|.*?\\|", "||");
    }

    /** All that can be seen, also by going back and by going on from what was kept. */
    private static String lookBack(SaidLeast x) {
        StringBuilder seen = new StringBuilder(look(x));
        while (x.undo() != LATE) {
            seen.append("\n    ").append(look(x));
        }
        for (int slot = 0; slot < 2; slot++) {
            seen.append("\n    ").append(x.again(slot)).append(": ").append(look(x));
        }
        return seen.toString();
    }

    private static void changesNothing(String what, Supplier<SaidLeast> evening, ToLongFunction<SaidLeast> call, long want) {
        SaidLeast x = evening.get();
        due(what, call.applyAsLong(x), want);
        same(what + " changed something", lookBack(x), lookBack(evening.get()));
    }

    /** Seven acts, one slot kept, a full text that is no parlour. */
    private static SaidLeast evening() {
        SaidLeast x = of("Q1P05P05P07A99P05P06S011-S122-S2130S314-");
        x.say(0);
        x.say(2);
        x.keep(0);
        x.talk(1, 2);
        x.come(3);
        x.go(4);
        x.law(2);
        x.talk(0, 1);
        x.go(0);
        x.come(0);
        x.go(0);
        write(x, rep("x", 64 - x.about(10)));
        return x;
    }

    private static SaidLeast full() {
        SaidLeast x = evening();
        for (int i = 0; i < 9; i++) {
            if (i % 2 == 0) {
                x.come(0);
            } else {
                x.go(0);
            }
        }
        return x;
    }

    private static void refusedChangesNothing() {
        for (Supplier<SaidLeast> e : java.util.List.<Supplier<SaidLeast>>of(EdgesTest::evening, EdgesTest::full, SaidLeast::new)) {
            boolean isNew = e.get().about(0) == 0;
            changesNothing("2: write(0)", e, x -> x.write(0, 1), BAD);
            changesNothing("2: write(9)", e, x -> x.write(9, 1), BAD);
            changesNothing("5: parlour()", e, SaidLeast::parlour, LATE);
            changesNothing("6: about(11)", e, x -> x.about(11), BAD);
            changesNothing("7: person(6, 0)", e, x -> x.person(6, 0), UNKNOWN);
            changesNothing("8: saying(8, 0)", e, x -> x.saying(8, 0), UNKNOWN);
            changesNothing("9: law(3)", e, x -> x.law(3), BAD);
            changesNothing("9: law(-1)", e, x -> x.law(-1), BAD);
            changesNothing("10: may(8)", e, x -> x.may(8), UNKNOWN);
            changesNothing("11: say(4)", e, x -> x.say(4), UNKNOWN);
            changesNothing("11: say(0)", e, x -> x.say(0), isNew ? UNKNOWN : LATE);
            changesNothing("11: say(2)", e, x -> x.say(2), isNew ? UNKNOWN : LATE);
            changesNothing("12: talk(6, 1)", e, x -> x.talk(6, 1), UNKNOWN);
            changesNothing("12: talk(5, 0)", e, x -> x.talk(5, 0), isNew ? UNKNOWN : BAD);
            changesNothing("12: talk(4, 1)", e, x -> x.talk(4, 1), isNew ? UNKNOWN : LATE);
            changesNothing("13: come(-1)", e, x -> x.come(-1), UNKNOWN);
            changesNothing("13: come(1)", e, x -> x.come(1), isNew ? UNKNOWN : LATE);
            changesNothing("14: go(6)", e, x -> x.go(6), UNKNOWN);
            changesNothing("14: go(4)", e, x -> x.go(4), isNew ? UNKNOWN : LATE);
            changesNothing("16: judge(0, 0)", e, x -> x.judge(0, 0), BAD);
            changesNothing("16: judge(2, 100)", e, x -> x.judge(2, 100), BAD);
            changesNothing("17: most(73)", e, x -> x.most(73), BAD);
            changesNothing("18: mostAt(-1, 0)", e, x -> x.mostAt(-1, 0), BAD);
            changesNothing("19: soon(8)", e, x -> x.soon(8), UNKNOWN);
            changesNothing("20: need(6)", e, x -> x.need(6), UNKNOWN);
            changesNothing("20: need(4)", e, x -> x.need(4), isNew ? UNKNOWN : LATE);
            changesNothing("22: out(55, 0)", e, x -> x.out(55, 0), BAD);
            changesNothing("22: out(0, 64)", e, x -> x.out(0, 64), BAD);
            changesNothing("23: chance(6, 0, 0)", e, x -> x.chance(6, 0, 0, true), UNKNOWN);
            changesNothing("23: chance(0, 7, 0)", e, x -> x.chance(0, 7, 0, true), isNew ? UNKNOWN : BAD);
            changesNothing("24: keep(2)", e, x -> x.keep(2), UNKNOWN);
            changesNothing("24: keep(-1)", e, x -> x.keep(-1), UNKNOWN);
            changesNothing("25: again(2)", e, x -> x.again(2), UNKNOWN);
            changesNothing("25: again(1)", e, x -> x.again(1), LATE);
        }
        changesNothing("2: write(1) of a full one", EdgesTest::evening, x -> x.write(1, 'Q'), FULL);
        changesNothing("2: write(8) of a full one", EdgesTest::evening, x -> x.write(8, -1L), FULL);
        changesNothing("15: undo() of none", SaidLeast::new, SaidLeast::undo, LATE);
    }

    /** Two people by turns, so that the orders have something to go through. */
    private static SaidLeast talkative() {
        SaidLeast x = of("Q1P00P01A00S011-S1120S025-S113-S0133S214-");
        x.say(0);
        x.keep(1);
        return x;
    }

    private static void lookingChangesNothing() {
        Supplier<SaidLeast> e = EdgesTest::talkative;
        changesNothing("4: fault()", e, SaidLeast::fault, NONE);
        changesNothing("10: may(1)", e, x -> x.may(1), 1);
        changesNothing("16: judge(3, 134)", e, x -> x.judge(3, 134), 1);
        changesNothing("16: judge(2, 12)", e, x -> x.judge(2, 12), NONE);
        changesNothing("17: most(72)", e, x -> x.most(72), 13);
        changesNothing("18: mostAt(72, 3)", e, x -> x.mostAt(72, 3), 4);
        changesNothing("19: soon(4)", e, x -> x.soon(4), 1);
        changesNothing("20: need(1)", e, x -> x.need(1), 0);
        changesNothing("21: each()", e, SaidLeast::each, 0b011111);
        changesNothing("22: out(9, 1)", e, x -> x.out(9, 1), 5);
        changesNothing("23: chance(1, 6, 3)", e, x -> x.chance(1, 6, 3, false), of("Q0P01P01").chance(1, 6, 3, false));
        changesNothing("24: keep(1)", e, x -> x.keep(1), 2);
    }
}
