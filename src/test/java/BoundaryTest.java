import java.lang.reflect.Method;
import java.lang.reflect.Modifier;
import java.util.Arrays;
import java.util.Comparator;

/**
 * Every sentence of the document that names a boundary has a test of its own here: a method whose name begins with
 * the promise's number (t and a number: a sentence of the terms). The sentence stands above it.
 */
public final class BoundaryTest {
    private static final int NONE = UnreadScript.NONE;
    private static final int NO_SUCH = -2;
    private static final int GAP = 20;
    private static final int LOWEST = Integer.MIN_VALUE;
    private static final int HIGHEST = Integer.MAX_VALUE;
    /** Numbers that are no sign, word, day, place or what of any kind; NONE is tried where it has no meaning. */
    private static final int[] FAR = {LOWEST, LOWEST + 1, LOWEST + 10, -1000, -2, 1000, HIGHEST - 10, HIGHEST};

    private static int wrong = 0;
    private static String running = "";

    private static void due(String what, int got, int want) {
        if (got != want) {
            wrong++;
            System.out.println(running + ": " + what + " answered " + got + ", due is " + want);
        }
    }

    private static void due(String what, boolean got, boolean want) {
        due(what, got ? 1 : 0, want ? 1 : 0);
    }

    public static void main(String[] args) throws ReflectiveOperationException {
        Method[] all = BoundaryTest.class.getDeclaredMethods();
        Arrays.sort(all, Comparator.comparing(Method::getName));
        boolean[] tested = new boolean[38];
        int tests = 0;
        for (Method m : all) {
            if (!m.getName().matches("[pt][0-9]+_.*") || !Modifier.isStatic(m.getModifiers())) continue;
            running = m.getName();
            m.invoke(null);
            tests++;
            if (running.charAt(0) == 'p') tested[Integer.parseInt(running.substring(1, 3))] = true;
        }
        running = "all tests";
        for (int p = 1; p <= 37; p++) due("a test of promise " + p, tested[p], true);
        System.out.println(wrong == 0 ? tests + " boundaries hold" : wrong + " answers are not as due");
        if (wrong != 0) System.exit(1);
    }

    // What the tests are made of.

    private static UnreadScript fresh() {
        return new UnreadScript();
    }

    private static int find(UnreadScript x, int... s) {
        return found(x, false, s);
    }

    private static int findName(UnreadScript x, int... s) {
        return found(x, true, s);
    }

    private static int found(UnreadScript x, boolean name, int... s) {
        int[] five = {NONE, NONE, NONE, NONE, NONE};
        System.arraycopy(s, 0, five, 0, s.length);
        return x.word(name, five[0], five[1], five[2], five[3], five[4]);
    }

    /** The text comes behind what the tape has, alone. */
    private static int write(UnreadScript x, int from, String text) {
        int length = x.end(from);
        for (int at = 0; at < text.length(); at += 20) {
            int[] f = new int[5];
            for (int i = 0; i < 20; i++) {
                int c = at + i < text.length() ? text.charAt(at + i) : ' ';
                f[i / 4] = f[i / 4] << 8 | c;
            }
            length = x.feed(f[0], f[1], f[2], f[3], f[4]);
        }
        return length == NONE ? NONE : x.end(from + text.length());
    }

    private static int name(UnreadScript x, String text) {
        write(x, 0, text);
        return x.name();
    }

    private static int spelling(UnreadScript x, String text) {
        write(x, 0, text);
        return x.spelling();
    }

    private static void faultIs(UnreadScript x, int fault, int place) {
        due("fault", x.fault(0), fault);
        due("its place", x.fault(1), place);
    }

    private static void badName(String text, int fault, int place) {
        UnreadScript x = fresh();
        due("name '" + text + "'", name(x, text), NONE);
        faultIs(x, fault, place);
        due("names", x.many(3), 0);
    }

    private static void badSpelling(String text, int fault, int place) {
        UnreadScript x = fresh();
        due("spelling '" + text + "'", spelling(x, text), NONE);
        if (x.fault(0) != fault || x.fault(1) != place) System.out.println("in '" + text + "'");
        faultIs(x, fault, place);
        due("lines", x.many(4), 0);
    }

    private static void goodSpelling(String text, int lines) {
        UnreadScript x = fresh();
        due("spelling '" + text + "'", spelling(x, text), lines);
        faultIs(x, 0, NONE);
        due("lines", x.many(4), lines);
    }

    private static void spells(String lines, String text, int... values) {
        UnreadScript x = fresh();
        spelling(x, lines);
        due("name '" + text + "'", name(x, text), 0);
        for (int k = 0; k <= values.length; k++)
            due("'" + lines + "' " + text + " value " + k, x.spelled(0, k), k < values.length ? values[k] : NONE);
    }

    /** An account with a plain row and a total that give the first ratio as this number. */
    private static void firstRatio(UnreadScript x, int account, int ratio) {
        x.count(account, false, Math.min(ratio, 9), 0, 0, 0);
        if (ratio > 9) x.count(account, false, ratio - 9, 0, 0, 0);
        x.count(account, true, 0, 1, 0, 0);
    }

    /** What the calls answer of all that lived() and its kin tell, in one text; some 110 calls. */
    private static String state(UnreadScript x) {
        StringBuilder s = new StringBuilder();
        for (int what = 0; what < 10; what++) s.append(x.many(what)).append(' ');
        int[] asked = {0, 1, 2, 3, 4, 10, 11, 12};
        int words = x.many(0);
        for (int w = 0; w < words; w++) for (int what : asked) s.append(x.about(w, what)).append(' ');
        int tellings = x.many(1);
        for (int k = 0; k < tellings; k++) for (int what = 0; what < 3; what++) s.append(x.telling(k, what)).append(' ');
        for (int sign : new int[] {1, 2, 3, 4, 7}) {
            s.append(x.row(sign)).append(' ').append(x.column(sign)).append(' ').append(x.sure(sign)).append(' ');
            for (int what = 0; what < 3; what++) s.append(x.use(sign, what)).append(' ');
        }
        s.append(x.breaker()).append(' ').append(x.sets()).append(' ').append(x.odd(0)).append(' ').append(x.readings());
        for (int i = 0; i < 3; i++) s.append(' ').append(x.sureRatio(i)).append(' ').append(x.ratio(0, i));
        for (int n = 0; n < 2; n++) for (int k = 0; k < 4; k++) s.append(' ').append(x.spelled(n, k));
        return s.append(' ').append(x.fault(0)).append(' ').append(x.fault(1)).toString();
    }

    /** An object in which something of every kind is told. */
    private static UnreadScript lived() {
        UnreadScript x = fresh();
        x.site(2);
        x.day(3);
        findName(x, 1, 2, 3);
        find(x, 1, 2, 4);
        find(x, 1, GAP, 4);
        x.tell(0, 1);
        x.account();
        firstRatio(x, 0, 5);
        name(x, "katape");
        spelling(x, "k end:last;");
        x.day(5);
        x.tell(2, 3);
        spelling(x, "k end;");
        write(x, 0, "pi");
        return x;
    }

    // Terms 1.

    /** "SIGNS are 0 .. 19; 20 is a GAP" */
    private static void t1_signsAre0To19AndAGapIsNone() {
        UnreadScript x = fresh();
        due("sign 0", find(x, 0), 0);
        due("sign 19", find(x, 19), 1);
        due("a gap", find(x, 0, GAP), 2);
        due("use of 0", x.use(0, 0), 2);
        due("use of 19", x.use(19, 0), 1);
        due("use of a gap", x.use(GAP, 0), NONE);
        due("signs that are used", x.many(9), 2);
        due("the gap is told as it is", x.about(2, 11), GAP);
    }

    /** "rows of 1 .. 5 SIGNS" */
    private static void t1_rowsOf1To5Signs() {
        UnreadScript x = fresh();
        int[][] rows = {{7}, {7, 6}, {7, 6, 5}, {7, 6, 5, 4}, {7, 6, 5, 4, 3}};
        for (int i = 0; i < 5; i++) {
            due("word", find(x, rows[i]), i);
            due("its length", x.about(i, 0), i + 1);
            for (int k = 0; k < 5; k++) due("sign " + k, x.about(i, 10 + k), k <= i ? 7 - k : NO_SUCH);
        }
    }

    /** "A TELLING is a WORD that is found, or a CASE that is told; TELLINGS ... are numbered from 0 on." */
    private static void t1_tellingsOfBothKindsShareTheirNumbers() {
        UnreadScript x = fresh();
        find(x, 1);
        due("a case", x.tell(0, 0), 1);
        due("a word keeps its own number", find(x, 2), 1);
        due("a case", x.tell(1, 0), 3);
        due("telling 2 is word 1", x.telling(2, 0), 1);
    }

    /** "by the TELLINGS, ACCOUNTS' rows and NAMES of that DAY and earlier": the day itself is seen, the next is not. */
    private static void t1_theViewSeesItsOwnDay() {
        UnreadScript x = fresh();
        x.day(4);
        findName(x, 1, 2, 3);
        find(x, 1, 2, 5);
        find(x, 1, 2, GAP);
        find(x, 6);
        x.tell(3, 0);
        x.tell(1, 0);
        x.account();
        firstRatio(x, 0, 7);
        name(x, "kataka");
        name(x, "i");
        findName(x, 9);
        x.day(5);
        for (int view = 3; view <= 5; view++) {
            boolean seen = view >= 4;
            x.view(view);
            due("row", x.row(5), seen ? 3 : 5);
            due("column", x.column(6), seen ? 5 : 6);
            due("use", x.use(2, 0), seen ? 3 : 0);
            due("initial", x.initial(0), seen ? 1 : NONE);
            due("twins", x.twins(3, 5), seen ? 1 : 0);
            due("fills", x.fills(2), seen ? 2 : NONE);
            due("fill", x.fill(2, 1), seen ? 5 : NONE);
            due("sets", x.sets(), seen ? 121 : 1331);
            due("ratio", x.ratio(0, 0), seen ? 7 : 2);
            due("sure ratio", x.sureRatio(0), seen ? 7 : NONE);
            due("spelled", x.spelled(1, 0), seen ? 2 : NONE);
            due("readings", x.readings(), 0);
            due("words by the view", x.many(7), seen ? 5 : 0);
            due("names by the view", x.many(8), seen ? 2 : 0);
            due("signs that are used", x.many(9), seen ? 6 : 0);
            due("words", x.many(0), 5);
            due("tellings", x.many(1), 7);
            due("names", x.many(3), 2);
        }
    }

    /** The same, with a view that goes back: nothing of the later one is left. */
    private static void t1_aViewThatGoesBack() {
        UnreadScript x = fresh();
        find(x, 9, 9, 1);
        x.account();
        x.count(0, false, 3, 0, 0, 0);
        x.day(1);
        find(x, 9, 9, 2);
        find(x, 3);
        find(x, 4);
        x.tell(3, 1);
        x.tell(2, 1);
        x.count(0, true, 0, 1, 0, 0);
        x.site(1);
        find(x, 5);
        x.day(2);
        x.site(0);
        find(x, 5);
        for (int view = 2; view >= 0; view--) {
            boolean seen = view >= 1;
            x.view(view);
            due("row", x.row(2), seen ? 1 : 2);
            due("column", x.column(4), seen ? 3 : 4);
            due("sure ratio", x.sureRatio(0), seen ? 3 : NONE);
            due("sets", x.sets(), seen ? 121 : 1331);
            due("5 and 1 of one site on day 2 alone", x.one(5, 1), view == 1);
            due("words", x.many(7), seen ? view + 4 : 1);
        }
    }

    /** A view of a day before all that is told has nothing of it. */
    private static void t1_aViewBeforeAll() {
        UnreadScript x = fresh();
        x.account();
        x.count(0, true, 0, 1, 0, 0);
        x.day(1);
        find(x, 3);
        find(x, 4);
        x.tell(0, 1);
        x.tell(1, 1);
        x.count(0, false, 5, 0, 0, 0);
        find(x, 7, GAP);
        x.day(2);
        find(x, 7, 8);
        due("column by now", x.column(4), 3);
        due("ratio by now", x.sureRatio(0), 5);
        due("fills by now", x.fills(2), 1);
        x.view(1);
        due("a word of the next day fills nothing", x.fills(2), 0);
        due("nor is it a fill", x.fill(2, 0), NONE);
        x.view(0);
        due("column", x.column(4), 4);
        due("a total alone", x.sets(), 1331);
        due("used", x.many(9), 0);
    }

    /** A case is one word's: the cases of others, told later, are not its own. */
    private static void t1_eachWordHasItsOwnCase() {
        UnreadScript x = fresh();
        for (int i = 0; i < 4; i++) find(x, i);
        for (int i = 3; i >= 1; i--) x.tell(i, i);
        due("none told of word 0", x.about(0, 4), NONE);
        for (int i = 1; i < 4; i++) due("case of word " + i, x.about(i, 4), i);
        x.tell(2, 0);
        due("told anew", x.about(2, 4), 0);
        due("the others stay", x.about(3, 4) * 10 + x.about(1, 4), 31);
        find(x, 5);
        due("a new word has none", x.about(4, 4), NONE);
    }

    /** The same of readings: they are counted by the words and names of the view's day. */
    private static void t1_readingsByTheView() {
        UnreadScript x = fresh();
        findName(x, 1);
        x.day(1);
        name(x, "ka");
        x.day(2);
        findName(x, 2);
        x.day(3);
        name(x, "te");
        x.day(4);
        int[] readings = {0, 1, 2, 2, 2};
        int[] sure = {NONE, 4, NONE, NONE, NONE};
        int[] left = {NONE, 1, 1, 1, 1};
        int[] second = {NONE, NONE, NONE, 1, 1};
        for (int view = 0; view <= 4; view++) {
            x.view(view);
            due("readings by " + view, x.readings(), readings[view]);
            due("sure by " + view, x.sure(1), sure[view]);
            due("next by " + view, x.next(0), readings[view] == 0 ? NONE : 0);
            due("left by " + view, x.next(1), left[view]);
            due("reading by " + view, x.reading(0, 1), second[view]);
            due("value by " + view, x.value(0, 2), view < 3 ? NONE : 9);
        }
    }

    /** "NOW (at first)": what is told later is seen at once. */
    private static void t1_nowGoesOn() {
        UnreadScript x = fresh();
        for (int day = 0; day < 3; day++) {
            x.day(day * 400);
            find(x, day);
            due("words by now", x.many(7), day + 1);
            due("use by now", x.use(day, 0), 1);
        }
        due("still NOW", x.many(6), NONE);
    }

    // Terms 2.

    /** "two WORDS ... of one length, 3 or more" */
    private static void t2_stemsOfTwoAndLongerJoin() {
        UnreadScript x = fresh();
        find(x, 10);
        find(x, 11);
        find(x, 10, 0);
        find(x, 10, 1);
        find(x, 10, 10, 2);
        find(x, 10, 10, 3);
        find(x, 10, 10, 10, 4);
        find(x, 10, 10, 10, 5);
        find(x, 10, 10, 10, 10, 6);
        find(x, 10, 10, 10, 10, 7);
        int[] want = {0, 1, 2, 2, 4, 4, 6, 6};
        for (int s = 0; s < want.length; s++) due("row of " + s, x.row(s), want[s]);
        due("words of one sign join nothing", x.row(11), 11);
        due("no column", x.column(3), 3);
    }

    /** "that differ in the last SIGN alone" */
    private static void t2_anotherPlaceJoinsNothing() {
        UnreadScript x = fresh();
        find(x, 1, 2, 3);
        find(x, 4, 2, 3);
        find(x, 1, 5, 3);
        find(x, 1, 6, 7);
        find(x, 8, 2, 9);
        find(x, 1, 2, 3);
        for (int s = 0; s < 20; s++) due("row of " + s, x.row(s), s);
    }

    /** "two WORDS without a GAP" */
    private static void t2_wordsWithAGapJoinNoRow() {
        UnreadScript x = fresh();
        find(x, 1, GAP, 3);
        find(x, 1, GAP, 4);
        find(x, 1, 2, 5);
        find(x, 1, 2, GAP);
        find(x, GAP, 2, 6);
        for (int s = 0; s < 20; s++) due("row of " + s, x.row(s), s);
    }

    /** "their last SIGNS (if neither is a GAP) have one VOWEL" */
    private static void t2_aLastGapJoinsNoColumn() {
        UnreadScript x = fresh();
        find(x, 3);
        find(x, 1, GAP);
        find(x, GAP, 5);
        for (int w = 0; w < 3; w++) x.tell(w, 2);
        due("column of 3", x.column(3), 3);
        due("a gap elsewhere is no hindrance", x.column(5), 3);
        due("other signs", x.column(1), 1);
        UnreadScript y = fresh();
        find(y, GAP);
        find(y, 0);
        find(y, 19);
        for (int w = 0; w < 3; w++) y.tell(w, 0);
        due("a gap alone", y.column(19), 0);
    }

    /** "Two WORDS of one CASE": each of the four is another. */
    private static void t2_eachCaseIsAColumnOfItsOwn() {
        UnreadScript x = fresh();
        for (int i = 0; i < 8; i++) find(x, i);
        for (int i = 0; i < 8; i++) x.tell(i, i % 4);
        for (int i = 0; i < 8; i++) due("column of " + i, x.column(i), i % 4);
        due("no row", x.row(7), 7);
    }

    /** The order in which cases are told is free. */
    private static void t2_casesToldFromTheLastWordOn() {
        UnreadScript x = fresh();
        for (int i = 0; i < 5; i++) find(x, 10 + i);
        for (int i = 4; i >= 0; i--) x.tell(i, 0);
        for (int i = 0; i < 5; i++) due("column of " + (10 + i), x.column(10 + i), 10);
    }

    /** "What goes on from SIGN to SIGN so", "each told by its least SIGN" */
    private static void t2_aChainIsToldByItsLeastSign() {
        UnreadScript x = fresh();
        for (int s = 19; s > 0; s--) {
            find(x, s, s, s);
            find(x, s, s, s - 1);
        }
        for (int s = 0; s < 20; s++) due("row of " + s, x.row(s), 0);
        UnreadScript y = fresh();
        find(y, 9);
        find(y, 4);
        find(y, 7);
        y.tell(0, 0);
        y.tell(1, 0);
        y.tell(1, 1);
        y.tell(2, 1);
        due("told anew it goes on no more", y.column(9), 9);
        due("the other case", y.column(7), 4);
        find(y, 1, 4);
        y.tell(3, 0);
        due("a sign in two cases joins both", y.column(9), 4);
        due("it goes on", y.column(7), 4);
    }

    /** "two unlike SIGNS are of one ROW and of one COLUMN": a sign with itself breaks nothing. */
    private static void t2_oneSignBreaksNothing() {
        UnreadScript x = fresh();
        find(x, 1, 2, 3);
        find(x, 1, 2, 3);
        x.tell(0, 0);
        x.tell(1, 0);
        due("one sign", x.breaker(), NONE);
        UnreadScript y = fresh();
        find(y, 1, 2, 3);
        find(y, 1, 2, 4);
        find(y, 5, 6, 7);
        y.tell(0, 0);
        y.tell(2, 0);
        due("a row and a column that share one sign", y.breaker(), NONE);
    }

    /** The same, at both ends of the signs. */
    private static void t2_anyTwoUnlikeSignsBreakIt() {
        for (int a = 0; a < 20; a++) {
            for (int b = 0; b < a; b++) {
                UnreadScript x = fresh();
                find(x, 5, 5, a);
                find(x, 5, 5, b);
                x.tell(0, 3);
                due("not yet", x.breaker(), NONE);
                x.tell(1, 3);
                due("broken by " + a + " and " + b, x.breaker(), 3);
            }
        }
    }

    /** "two unlike SIGNS are of one ROW and of one COLUMN", far along both. */
    private static void t2_brokenAlongChains() {
        UnreadScript x = fresh();
        find(x, 1, 1, 5);
        find(x, 1, 1, 6);
        find(x, 2, 2, 6);
        find(x, 2, 2, 7);
        find(x, 5);
        find(x, 8);
        find(x, 3, 8);
        find(x, 7);
        x.tell(4, 0);
        x.tell(5, 0);
        x.tell(6, 1);
        due("not yet", x.breaker(), NONE);
        due("the telling that breaks it", x.tell(7, 1), 11);
        due("5 and 7 are of one row and one column", x.breaker(), 11);
    }

    /** "in order by first / all, the greatest first (exactly)" */
    private static void t2_initialsAreComparedExactly() {
        // 7 of 20 is 0.35, 8 of 23 is 0.348; cut to whole hundredths, or to less, they would change places or be even
        UnreadScript x = fresh();
        for (int i = 0; i < 8; i++) find(x, 1, 19, 19);
        for (int i = 0; i < 7; i++) find(x, 2, 19, 19);
        for (int i = 0; i < 15; i++) find(x, 19, 1);
        for (int i = 0; i < 13; i++) find(x, 19, 2);
        due("7 of 20", x.use(2, 1) * 100 + x.use(2, 0), 720);
        due("8 of 23", x.use(1, 1) * 100 + x.use(1, 0), 823);
        int[] order = {19, 2, 1, NONE};
        for (int k = 0; k < 4; k++) due("initial " + k, x.initial(k), order[k]);
    }

    /** "of several by all, the greatest first; of several the least SIGN" */
    private static void t2_initialsOfOneShare() {
        UnreadScript x = fresh();
        find(x, 9, 4);
        find(x, 4, 9);
        find(x, 3, 3);
        find(x, 3, 3);
        find(x, 2, 1);
        // 2: 1 of 1; 3: 2 of 4; 4 and 9: 1 of 2; 1: 0 of 1
        int[] order = {2, 3, 4, 9, 1, NONE};
        for (int k = 0; k < order.length; k++) due("initial " + k, x.initial(k), order[k]);
        UnreadScript y = fresh();
        find(y, 0, 6);
        find(y, 0, 5, 5);
        int[] never = {0, 5, 6};
        for (int k = 0; k < 3; k++) due("those never first, by all", y.initial(k), never[k]);
    }

    /** "they are all in which these differ, and at one place alone" */
    private static void t2_twinsAtOnePlaceAlone() {
        UnreadScript x = fresh();
        find(x, 1, 2, 1, 2);
        find(x, 2, 1, 2, 1);
        find(x, 1, 2, 2, 2);
        due("4 places, 1 place, 3 places", x.twins(1, 2), 1);
        find(x, 1, 2, 2, 2);
        due("each pair counts, equal words are none", x.twins(1, 2), 2);
        find(x, 1, 2, 2);
        find(x, 1, 2, 2, 2, 1);
        due("another length", x.twins(1, 2), 2);
        find(x, 3, 2, 2, 2);
        due("another sign", x.twins(1, 2), 2);
        due("another sign", x.twins(1, 3), 2);
    }

    /** "they are all in which these differ": both of them, whichever is asked first or stands earlier. */
    private static void t2_twinsAreBothOfTheTwo() {
        UnreadScript x = fresh();
        find(x, 4);
        find(x, 7);
        find(x, 9);
        int[] signs = {4, 7, 9, 0};
        for (int a : signs) {
            for (int b : signs) {
                int want = a == b ? NONE : a == 0 || b == 0 ? 0 : 1;
                due("twins of " + a + " and " + b, x.twins(a, b), want);
            }
        }
    }

    /** "pairs of WORDS without a GAP, of one length": length one is a length. */
    private static void t2_twinsOfEveryLengthWithoutAGap() {
        UnreadScript x = fresh();
        find(x, 0);
        find(x, 19);
        due("length 1", x.twins(0, 19), 1);
        find(x, 5, 0);
        find(x, 5, 19);
        due("length 2", x.twins(0, 19), 2);
        find(x, 0, 1, 2, 3, 4);
        find(x, 19, 1, 2, 3, 4);
        due("length 5, at the first place", x.twins(19, 0), 3);
        find(x, GAP, 0, 2);
        find(x, GAP, 19, 2);
        find(x, 7, 0);
        find(x, 7, GAP);
        due("with a gap", x.twins(0, 19), 3);
    }

    /** "no SITE has WORDS with both of them": also not in two words. */
    private static void t2_mayBeOneOfTwoSites() {
        UnreadScript x = fresh();
        find(x, 1);
        x.site(3);
        find(x, 2);
        due("two sites", x.one(1, 2), true);
        find(x, 3);
        due("two words of one site", x.one(2, 3), false);
        find(x, 4, 5);
        due("one word", x.one(4, 5), false);
        x.site(0);
        find(x, 4);
        due("a second site that has no both", x.one(1, 4), false);
        due("the third", x.one(2, 1), true);
    }

    /** "THE GRID is not BROKEN if they were one SIGN (in all WORDS the less of both)" */
    private static void t2_mayBeOneIfTheGridStands() {
        UnreadScript x = fresh();
        find(x, 1, 2, 8);
        x.site(1);
        find(x, 1, 2, 9);
        x.tell(0, 0);
        x.tell(1, 0);
        due("broken by 8 and 9", x.breaker(), 3);
        due("8 and 9 as one mend it", x.one(8, 9), true);
        due("either way", x.one(9, 8), true);
        find(x, 3);
        x.site(0);
        find(x, 4);
        due("3 and 4 as one do not", x.one(3, 4), false);
        UnreadScript y = fresh();
        find(y, 1, 2, 6);
        find(y, 1, 2, 7);
        y.site(1);
        find(y, 5);
        find(y, 8);
        y.tell(0, 0);
        y.tell(2, 0);
        y.tell(3, 0);
        due("7 and 5 would be one: 6 and 5 are of one row and column then", y.one(7, 5), false);
        due("6 and 5 would be one", y.one(6, 5), true);
    }

    /** "each of both is used" */
    private static void t2_mayBeOneOnlyIfBothAreUsed() {
        UnreadScript x = fresh();
        due("none is used", x.one(0, 19), false);
        find(x, 0);
        due("one is used", x.one(0, 19), false);
        due("one is used", x.one(19, 0), false);
        x.site(1);
        x.day(1);
        find(x, 19);
        due("both", x.one(0, 19), true);
        x.view(0);
        due("one, by the view", x.one(0, 19), false);
    }

    /** "would be another WORD that has no GAP" */
    private static void t2_fillsByAWordWithoutAGap() {
        UnreadScript x = fresh();
        find(x, GAP);
        find(x, GAP);
        find(x, 2, GAP);
        due("none by itself, or by another gap", x.fills(0), 0);
        find(x, 19);
        find(x, 0);
        find(x, 0);
        due("a gap alone", x.fills(0), 2);
        due("the least first", x.fill(0, 0), 0);
        due("the greatest", x.fill(0, 1), 19);
        due("a word of two", x.fills(2), 0);
        find(x, 2, 2);
        due("a word of two", x.fill(2, 0), 2);
    }

    /** "would be another WORD": every sign but the gap is the same, wherever the gap is. */
    private static void t2_aFillLeavesEveryOtherSign() {
        for (int gap = 0; gap < 5; gap++) {
            for (int other = 0; other < 5; other++) {
                UnreadScript x = fresh();
                int[] holed = {1, 2, 3, 4, 5};
                holed[gap] = GAP;
                find(x, holed);
                int[] whole = {1, 2, 3, 4, 5};
                whole[other] = 9;
                find(x, whole);
                boolean fits = other == gap || other == 4 && gap != 4;
                due("gap " + gap + ", another sign at " + other, x.fills(0), fits ? 1 : 0);
                due("the fill", x.fill(0, 0), !fits ? NONE : other == gap ? 9 : gap + 1);
            }
        }
    }

    /** "its GAP not being the last one" */
    private static void t2_aLastGapIsFilledByEqualStemsAlone() {
        UnreadScript x = fresh();
        find(x, 1, 2, GAP);
        find(x, 1, 3, 4);
        due("another stem", x.fills(0), 0);
        find(x, 1, 2, 5);
        due("the same stem", x.fills(0), 1);
        find(x, 1, GAP, 9);
        due("a gap ahead of the last", x.fills(3), 2);
        due("2 from word 2, 3 from word 1", x.fill(3, 0) * 100 + x.fill(3, 1), 203);
    }

    /** "its length 3 or more" */
    private static void t2_aWordOfTwoIsNotFilledByAnotherEnding() {
        UnreadScript x = fresh();
        find(x, GAP, 1);
        find(x, 5, 2);
        due("length 2", x.fills(0), 0);
        find(x, GAP, 3, 1);
        find(x, 6, 3, 2);
        due("length 3", x.fills(2), 1);
        due("its fill", x.fill(2, 0), 6);
        find(x, GAP, 3, 3, 3, 1);
        find(x, 7, 3, 3, 3, 2);
        find(x, 8, 3, 3, 4, 2);
        due("length 5, in the last alone", x.fills(4), 1);
        due("its fill", x.fill(4, 0), 7);
    }

    // Terms 3.

    /** "RATIOS are three numbers, 2 .. 12 each" */
    private static void t3_ratiosAre2To12() {
        for (int ratio = 1; ratio <= 13; ratio++) {
            boolean may = ratio >= 2 && ratio <= 12;
            for (int which = 0; which < 3; which++) {
                UnreadScript x = fresh();
                x.account();
                int[] row = new int[4];
                row[which] = Math.min(ratio, 9);
                x.count(0, false, row[0], row[1], row[2], row[3]);
                row[which] = ratio - row[which];
                x.count(0, false, row[0], row[1], row[2], row[3]);
                row[which] = 0;
                row[which + 1] = 1;
                x.count(0, true, row[0], row[1], row[2], row[3]);
                due("sets for " + ratio, x.sets(), may ? 121 : 0);
                due("ratio " + which, x.sureRatio(which), may ? ratio : NONE);
            }
        }
    }

    /** "the third one the second RATIO times the second one, and so on" */
    private static void t3_worthGoesOnFromSignToSign() {
        UnreadScript x = fresh();
        for (int i = 0; i < 3; i++) x.account();
        firstRatio(x, 0, 12);
        x.count(1, false, 0, 9, 0, 0);
        x.count(1, false, 0, 3, 0, 0);
        x.count(1, true, 0, 0, 1, 0);
        x.count(2, false, 0, 0, 9, 0);
        x.count(2, false, 0, 0, 3, 0);
        x.count(2, true, 0, 0, 0, 1);
        due("one set", x.sets(), 1);
        for (int i = 0; i < 3; i++) due("ratio", x.ratio(0, i), 12);
        x.account();
        for (int i = 0; i < 6; i++) x.count(3, false, 9, 9, 9, 9);
        x.count(3, true, 9, 9, 9, 9);
        due("the heaviest rows are not the total", x.sets(), 0);
        due("that one is odd", x.odd(0), 3);
        due("it alone", x.odd(1), NONE);
    }

    /** "An ACCOUNT with a TOTAL and a plain row counts" */
    private static void t3_aTotalAloneOrPlainRowsAloneDoNotCount() {
        UnreadScript x = fresh();
        x.account();
        x.account();
        x.count(0, true, 1, 0, 0, 0);
        x.count(1, false, 1, 0, 0, 0);
        due("neither counts", x.sets(), 1331);
        due("nor is odd", x.odd(0), NONE);
        x.count(0, false, 0, 0, 0, 0);
        due("a row of nothing counts", x.sets(), 0);
        due("it is odd", x.odd(0), 0);
        due("the other is not", x.odd(1), NONE);
        UnreadScript y = fresh();
        y.account();
        y.count(0, false, 0, 0, 0, 0);
        y.count(0, true, 0, 0, 0, 0);
        due("nothing is nothing by all", y.sets(), 1331);
    }

    /** Rows of the last day are rows as any other: both counts and days stand at their greatest. */
    private static void t3_rowsOfTheLastDay() {
        UnreadScript x = fresh();
        for (int i = 0; i < 10; i++) x.account();
        x.day(998);
        x.count(9, false, 9, 9, 9, 9);
        x.day(999);
        x.count(9, true, 9, 9, 9, 8);
        due("by now", x.sets(), 0);
        due("it is odd", x.odd(0), 9);
        x.view(998);
        due("by the day before", x.sets(), 1331);
        x.view(999);
        due("by its own day", x.sets(), 0);
        x.count(9, true, 9, 9, 9, 9);
        due("told anew on that day", x.sets(), 1331);
    }

    /** "SETS of RATIOS ... in order (first, second, third)" */
    private static void t3_setsAreInOrder() {
        UnreadScript x = fresh();
        int[][] want = {{0, 2, 2, 2}, {1, 2, 2, 3}, {10, 2, 2, 12}, {11, 2, 3, 2}, {120, 2, 12, 12}, {121, 3, 2, 2}, {1330, 12, 12, 12}};
        for (int[] w : want) for (int i = 0; i < 3; i++) due("set " + w[0] + " ratio " + i, x.ratio(w[0], i), w[1 + i]);
        // a third sign worth 12 first ones
        x.account();
        x.count(0, false, 9, 0, 0, 0);
        x.count(0, false, 3, 0, 0, 0);
        x.count(0, true, 0, 0, 1, 0);
        due("2 6, 3 4, 4 3, 6 2", x.sets(), 44);
        int[] firsts = {2, 3, 4, 6};
        for (int k = 0; k < 44; k++) {
            due("first", x.ratio(k, 0), firsts[k / 11]);
            due("second", x.ratio(k, 1), 12 / firsts[k / 11]);
            due("third", x.ratio(k, 2), 2 + k % 11);
        }
    }

    /** One set at least is there: one alone is enough for a ratio that is sure, and none is odd. */
    private static void t3_oneSetIsEnough() {
        UnreadScript x = fresh();
        for (int i = 0; i < 3; i++) x.account();
        x.count(0, false, 2, 0, 0, 0);
        x.count(0, true, 0, 1, 0, 0);
        due("an account that would be odd to other sets", x.odd(0), NONE);
        x.count(1, false, 0, 7, 0, 0);
        x.count(1, true, 0, 0, 1, 0);
        x.count(2, false, 0, 0, 5, 0);
        x.count(2, true, 0, 0, 0, 1);
        due("one set", x.sets(), 1);
        int[] want = {2, 7, 5};
        for (int i = 0; i < 3; i++) due("ratio " + i, x.sureRatio(i), want[i]);
        due("none is odd", x.odd(0), NONE);
        due("no second set", x.ratio(1, 0), NONE);
    }

    /** "ODD, if there are no SETS" */
    private static void t3_noOddWhileThereAreSets() {
        UnreadScript x = fresh();
        for (int i = 0; i < 3; i++) x.account();
        firstRatio(x, 0, 4);
        firstRatio(x, 1, 4);
        due("sets", x.sets(), 121);
        due("none is odd", x.odd(0), NONE);
        x.day(1);
        firstRatio(x, 2, 3);
        due("no sets", x.sets(), 0);
        due("the third is odd", x.odd(0), 2);
        due("it alone", x.odd(1), NONE);
        x.view(0);
        due("not by an earlier view", x.odd(0), NONE);
        x.view(1);
        x.count(2, true, 3, 0, 0, 0);
        due("told anew it agrees", x.odd(0), NONE);
        due("sets", x.sets(), 121);
    }

    // Terms 4.

    /** "k t p s n r are consonants 1 .. 6, a e i o vowels 0 .. 3. VALUE ...: 4 * c + v" */
    private static void t4_everyValue() {
        String consonants = "ktpsnr";
        String vowels = "aeio";
        for (int v = 0; v < 4; v++) {
            spells("", vowels.substring(v, v + 1), v);
            for (int c = 1; c <= 6; c++) spells("", consonants.substring(c - 1, c) + vowels.charAt(v), 4 * c + v);
        }
    }

    /** Bytes next to the letters, and letters of the other size, are none. */
    private static void t4_everyOtherByteIsNoLetter() {
        for (int b = 0; b < 256; b++) {
            boolean letter = "ktpsnraeio".indexOf(b) >= 0;
            UnreadScript x = fresh();
            due("byte " + b, name(x, "a" + (char) b), letter ? 0 : NONE);
            faultIs(x, letter ? 0 : 1, letter ? NONE : 1);
        }
    }

    /** "1 the first byte that is no LETTER ...; without one: 2 the 11th LETTER" */
    private static void t4_aStrangeByteComesAheadOfTheEleventhLetter() {
        badName("kakakakakakakakaka!", 1, 18);
        badName("kakakakakak", 2, 10);
        badName("kakakakakakakakaka", 2, 10);
        badName("kakakakakak!", 1, 11);
        badName("kakakakaka!", 1, 10);
        badName("!?", 1, 0);
        badName("ka ", 1, 2);
        badName("ak".repeat(199) + "a!", 1, 399);
        badName("ak".repeat(200), 2, 10);
    }

    /** "of none at all the end, place 0" */
    private static void t4_noLetterAtAll() {
        badName("", 1, 0);
    }

    /** "texts of 1 .. 10 LETTERS" */
    private static void t4_namesOf1To10Letters() {
        for (int n = 1; n <= 10; n++) {
            UnreadScript x = fresh();
            due("name of " + n, name(x, "kakakakaka".substring(0, n)), 0);
            faultIs(x, 0, NONE);
        }
    }

    /** "blanks (10, 32) between" */
    private static void t4_blanksAre10And32Alone() {
        String line = "k open:as t;";
        for (int b = 0; b < 256; b++) {
            UnreadScript x = fresh();
            boolean blank = b == 10 || b == 32;
            due("byte " + b, spelling(x, line + (char) b + line), blank ? 2 : NONE);
            faultIs(x, blank ? 0 : 1, blank ? NONE : 12);
        }
        goodSpelling("\n \n k \n open \n : \n as \n t \n ; \n", 1);
        goodSpelling(" ".repeat(400), 0);
        goodSpelling("\n", 0);
    }

    /** "TOKENS, as long as they go": what is not parted is one word. */
    private static void t4_tokensAreAsLongAsTheyGo() {
        badSpelling("kopen:drop;", 1, 0);
        badSpelling("k openk:drop;", 1, 2);
        badSpelling("k open:dropk;", 1, 7);
        badSpelling("k open:ast;", 1, 7);
        badSpelling("k open:as tk;", 1, 10);
        badSpelling("k ope n:drop;", 1, 2);
        badSpelling("k open:a s t;", 1, 7);
        badSpelling("k opena:drop;", 1, 2);
        badSpelling("k openz:drop;", 1, 2);
        badSpelling("k open`:drop;", 1, 6);
        badSpelling("k open{:drop;", 1, 6);
        badSpelling("k aopen:drop;", 1, 2);
        goodSpelling("k open:drop;k end:drop;", 2);
    }

    /** "TEXT: {LINE}": none is a text, too. */
    private static void t4_aTextOfNoLine() {
        goodSpelling("", 0);
        UnreadScript x = fresh();
        spelling(x, "k open:as t;");
        due("an empty tape", x.spelling(), 0);
        due("no line is left", x.many(4), 0);
        name(x, "ka");
        due("ka by itself", x.spelled(0, 0), 4);
    }

    /** "LINE: CONSONANT ...": each consonant, and no other letter. */
    private static void t4_consonantsOfALine() {
        for (char c = 'a'; c <= 'z'; c++) {
            boolean consonant = "ktpsnr".indexOf(c) >= 0;
            if (consonant) {
                goodSpelling(c + " open:drop;", 1);
                goodSpelling("k open:as " + c + ";", 1);
            } else {
                badSpelling(c + " open:drop;", 1, 0);
                badSpelling("k open:as " + c + ";", 1, 10);
            }
        }
    }

    /** "'open' | 'cluster' | 'end'", "'drop' | 'echo' | 'last' | 'as'": just these words, letter by letter. */
    private static void t4_wordsOfALine() {
        for (String stand : new String[] {"open", "cluster", "end"}) {
            for (int i = 0; i < stand.length(); i++) {
                badSpelling("k " + stand.substring(0, i) + "x" + stand.substring(i + 1) + ":drop;", 1, 2);
                badSpelling("k " + stand.substring(0, i) + stand.substring(i + 1) + ":drop;", 1, 2);
            }
        }
        for (String action : new String[] {"drop", "echo", "last", "as"}) {
            for (int i = 0; i < action.length(); i++) {
                badSpelling("k cluster:" + action.substring(0, i) + "x" + action.substring(i + 1) + " t;", 1, 10);
                badSpelling("k cluster:" + action.substring(0, i) + action.substring(i + 1) + ";", 1, 10);
            }
        }
        badSpelling("k Open:drop;", 1, 2);
        badSpelling("K open:drop;", 1, 0);
    }

    /** "1 the first byte or token with which no text goes on" with "places (a token's first byte; the end's)" */
    private static void t4_everyPlaceWhereNoTextGoesOn() {
        String[] tokens = {"k", " open", ":", "as", " t", ";"};
        StringBuilder text = new StringBuilder();
        for (int n = 0; n < tokens.length; n++) {
            if (n > 0) badSpelling(text.toString(), 1, text.length());
            if (n > 0) badSpelling(text + " \n", 1, text.length() + 2);
            badSpelling(text + " ! ", 1, text.length() + 1);
            badSpelling(text + " zz;", 1, text.length() + 1);
            if (n != 2) badSpelling(text + " :", 1, text.length() + 1);
            if (n != 5) badSpelling(text + " ;", 1, text.length() + 1);
            if (n != 0) badSpelling(text + " open", 1, text.length() + (n == 1 ? 5 : 1));
            text.append(tokens[n]);
        }
        goodSpelling(text.toString(), 1);
        badSpelling("k open:drop;".repeat(2) + "k", 1, 25);
        badSpelling("k open:drop t;", 1, 12);
        badSpelling("k end:last;" + " ".repeat(388) + "!", 1, 399);
        badSpelling("k end:last;k" + " ".repeat(388), 1, 400);
    }

    /** "If there is none, the first of": fault 1 comes ahead of 2 and 3 wherever it is. */
    private static void t4_noTextComesAheadOfTheOtherFaults() {
        badSpelling("k open:echo;k", 1, 13);
        badSpelling("k open:last;t end:echo;!", 1, 23);
        badSpelling("k end:drop;".repeat(17) + "k", 1, 188);
        badSpelling("k end:drop;".repeat(17) + "!", 1, 187);
        badSpelling("k open:echo", 1, 11);
    }

    /** "2 echo behind open or end, last behind open (at that word)" */
    private static void t4_echoAndLastWhereTheyMayNotBe() {
        String[] stands = {"open", "cluster", "end"};
        String[] actions = {"drop", "echo", "last", "as t"};
        for (int i = 0; i < 3; i++) {
            for (int j = 0; j < 4; j++) {
                boolean bad = j == 1 && i != 1 || j == 2 && i == 0;
                String text = "p " + stands[i] + ": " + actions[j] + ";";
                if (bad) badSpelling(text, 2, 2 + stands[i].length() + 2);
                else goodSpelling(text, 1);
            }
        }
        badSpelling("k open:drop;k open:last;k open:echo;", 2, 19);
    }

    /** "3 a 17th LINE, at its first token" */
    private static void t4_aSeventeenthLine() {
        goodSpelling("k open:as t;".repeat(16), 16);
        badSpelling("k open:as t;".repeat(17), 3, 192);
        badSpelling("k open:as t;".repeat(16) + " \n k open:as t;", 3, 195);
        badSpelling("k open:as t;".repeat(33), 3, 192);
    }

    /** "the first of: 2 ...; 3 ..." by their places */
    private static void t4_theFirstOfTwoFaults() {
        badSpelling("k open:as t;".repeat(15) + "k open:last;k end:drop;", 2, 187);
        badSpelling("k open:as t;".repeat(16) + "k open:last;", 3, 192);
        badSpelling("k open:echo;" + "k open:as t;".repeat(16), 2, 7);
    }

    /** "by the first LINE for it and where it stands" */
    private static void t4_theFirstLineHolds() {
        spells("k open:as t;k open:as p;k open:drop;", "ka", 8);
        spells("k end:as t;k cluster:drop;", "ka", 4);
        spells("t open:as p;k open:as t;", "ka", 8);
        spells("k cluster:last;k cluster:drop;", "akta", 0, 4, 8);
        spells("t open:drop;".repeat(15) + "k open:as r;", "ka", 24);
    }

    /** "for it and where it stands": a line is for its own consonant and its own place alone. */
    private static void t4_aLineIsForItsOwnConsonantAndPlace() {
        String consonants = "ktpsnr";
        String[] stands = {"open", "cluster", "end"};
        String[] names = {"%si", "a%sre", "o%s"};
        for (int line = 0; line < 18; line++) {
            String to = line / 3 == 5 ? "k" : "r";
            int other = line / 3 == 5 ? 1 : 6;
            for (int asked = 0; asked < 18; asked++) {
                int c = asked / 3 + 1;
                int by = asked == line ? other : c;
                String lines = consonants.charAt(line / 3) + " " + stands[line % 3] + ":as " + to + ";";
                String name = String.format(names[asked % 3], consonants.charAt(c - 1));
                boolean joined = line == 15;
                if (asked % 3 == 0) spells(lines, name, 4 * by + 2);
                else if (asked % 3 == 1) spells(lines, name, 0, 4 * by + 1, joined ? 5 : 25);
                else if (asked == line) spells(lines, name, 3, 4 * by + 3);
                else spells(lines, name, 3);
            }
        }
    }

    /** "a vowel that no consonant ahead of it takes" */
    private static void t4_vowelsThatNoConsonantTakes() {
        spells("", "a", 0);
        spells("", "aa", 0, 0);
        spells("", "kaa", 4, 0);
        spells("k open:drop;", "kaa", 0, 0);
        spells("", "ktaa", 4, 8, 0);
        spells("k cluster:drop;", "kto", 11);
    }

    /** "Where there is no such vowel: nothing." */
    private static void t4_noSuchVowel() {
        spells("", "akt", 0);
        spells("k cluster:echo;", "akt", 0);
        spells("k cluster:as r;", "akt", 0);
        spells("k cluster:last;", "kta", 8);
        spells("k end:last;", "k");
        spells("k end:as t;", "k");
        spells("k end:last;t cluster:last;", "tk");
        spells("k end:last;t cluster:last;", "atk", 0, 8, 4);
    }

    /** "the next vowel behind it", "the latest vowel ahead" */
    private static void t4_theNearestVowel() {
        spells("", "akpeo", 0, 5, 13, 3);
        spells("", "kpsti", 6, 14, 18, 10);
        spells("k cluster:last;", "aekpo", 0, 1, 5, 15);
        spells("k end:last;", "aeptk", 0, 1, 5);
    }

    /** The last sentence above: a cluster at the end has no vowel behind it, and the end takes the latest. */
    private static void t4_aClusterAtTheEnd() {
        spells("k end:last;p cluster:last;t cluster:last;", "aeptk", 0, 1, 13, 9, 5);
        spells("k end:as r;", "aipk", 0, 2, 26);
    }

    /** "A NAME is SPELLED, if that is 1 .. 5 VALUES." */
    private static void t4_spelledBy1To5Values() {
        spells("", "k");
        spells("", "kkkkkkkkkk");
        spells("", "o", 3);
        spells("", "oooook", 3, 3, 3, 3, 3);
        spells("", "oooooo");
        spells("", "kakakakaka", 4, 4, 4, 4, 4);
        spells("k end:last;", "aeioik");
        spells("", "aeioik", 0, 1, 2, 3, 2);
        spells("k end:last;", "kakakakakk", 4, 4, 4, 4, 4);
        spells("", "kakakakakk", 4, 4, 4, 4);
        spells("", "aaaaaaaaaa");
        UnreadScript x = fresh();
        findName(x, 1, 2, 3, 4, 5);
        name(x, "oooooo");
        due("no reading of a name of six values", x.readings(), 0);
        name(x, "t");
        due("nor of none", x.readings(), 0);
        due("none is spelled", x.reading(0, 0), NONE);
    }

    /** The same of the fifth name as of the first, each of ten letters and of five values. */
    private static void t4_fiveNamesOfTenLetters() {
        UnreadScript x = fresh();
        spelling(x, "k cluster:last;t end:last;");
        String[] names = {"kakekikoka", "tatetitota", "papepipopa", "sasesisosa", "naneninona"};
        for (int n = 0; n < 5; n++) due("name", name(x, names[n]), n);
        for (int n = 0; n < 5; n++)
            for (int k = 0; k <= 5; k++) due("value " + k + " of name " + n, x.spelled(n, k), k == 5 ? NONE : 4 * (n + 1) + k % 4);
        for (int n = 4; n >= 0; n--) findName(x, 4 * n, 4 * n + 1, 4 * n + 2, GAP, 4 * n);
        for (int i = 5; i < 12; i++) findName(x, 19, 19, 19, i, i);
        due("readings of twelve words of five signs", x.readings(), 120);
        for (int n = 0; n < 5; n++) due("the last reading", x.reading(119, n), 4 - n);
        due("no sixth name", x.reading(0, 5), NONE);
        due("no sixth name", x.spelled(5, 0), NONE);
        UnreadScript y = fresh();
        spelling(y, "k cluster:last;t end:last;");
        String[] ends = {"aktet", "ektit", "iktot", "oktat", "akt"};
        for (String text : ends) name(y, text);
        int[][] want = {{0, 4, 9, 9}, {1, 5, 10, 10}, {2, 6, 11, 11}, {3, 7, 8, 8}, {0, 4, 8, NONE}};
        for (int n = 0; n < 5; n++)
            for (int k = 0; k < 4; k++) due("value " + k + " of " + ends[n], y.spelled(n, k), want[n][k]);
    }

    /** "A READING (if one NAME at least is SPELLED)" */
    private static void t4_noReadingWithoutASpelledName() {
        UnreadScript x = fresh();
        due("nothing at all", x.readings(), 0);
        findName(x, 1);
        due("no name", x.readings(), 0);
        name(x, "k");
        due("none that is spelled", x.readings(), 0);
        due("no next", x.next(0), NONE);
        name(x, "a");
        due("one", x.readings(), 1);
        due("of the second", x.reading(0, 1), 0);
    }

    /** "for each NAME that is SPELLED another WORD": one word can't be two names'. */
    private static void t4_aWordForEachName() {
        UnreadScript x = fresh();
        findName(x, GAP);
        name(x, "a");
        due("one", x.readings(), 1);
        name(x, "a");
        due("a name too many", x.readings(), 0);
        findName(x, GAP);
        due("two ways", x.readings(), 2);
        due("in order", x.reading(0, 0) * 10 + x.reading(0, 1), 1);
        due("in order", x.reading(1, 0) * 10 + x.reading(1, 1), 10);
    }

    /** "that may be a NAME's" */
    private static void t4_onlyWordsThatMayBeANames() {
        UnreadScript x = fresh();
        find(x, 1);
        name(x, "a");
        due("no such word", x.readings(), 0);
        findName(x, 1);
        due("one", x.readings(), 1);
        due("its word", x.reading(0, 0), 1);
        due("next is that word", x.next(0), 1);
    }

    /** "of as many SIGNS as it has VALUES" */
    private static void t4_asManySignsAsValues() {
        UnreadScript x = fresh();
        findName(x, 1);
        findName(x, 1, 2);
        findName(x, 1, 2, GAP);
        findName(x, 1, 2, 3, 4);
        findName(x, 1, 2, 3, 4, 5);
        String[] names = {"ka", "kate", "katepi", "katepiso", "katepisona"};
        for (int i = 4; i >= 0; i--) name(x, names[i]);
        due("one reading", x.readings(), 1);
        for (int i = 0; i < 5; i++) due("word of name " + i, x.reading(0, i), 4 - i);
        int[] values = {4, 9, 14, 19, 20};
        for (int s = 1; s <= 5; s++) due("sure of " + s, x.sure(s), values[s - 1]);
    }

    /** "each SIGN (a GAP is none) has one VALUE, each VALUE one SIGN" */
    private static void t4_oneSignOneValue() {
        int[][] words = {{1, 1}, {1, 2}, {1, GAP}, {GAP, 1}};
        String[] names = {"kaka", "kata"};
        int[][] want = {{1, 0}, {0, 1}, {1, 1}, {1, 1}};
        for (int w = 0; w < 4; w++) {
            for (int n = 0; n < 2; n++) {
                UnreadScript x = fresh();
                findName(x, words[w]);
                name(x, names[n]);
                due("word " + w + " as " + names[n], x.readings(), want[w][n]);
            }
        }
        UnreadScript y = fresh();
        findName(y, 1);
        findName(y, 2);
        name(y, "ka");
        name(y, "ka");
        due("two signs of one value", y.readings(), 0);
        findName(y, 2);
        due("one sign twice", y.readings(), 2);
    }

    /** "SIGNS of one ROW one consonant, of one COLUMN one vowel": none at all is one consonant, too. */
    private static void t4_noConsonantIsOne() {
        String[][] pairs = {{"a", "e"}, {"a", "ke"}, {"ke", "a"}, {"ro", "ra"}, {"ro", "no"}};
        int[] inARow = {2, 0, 0, 2, 0};
        int[] inAColumn = {0, 0, 0, 0, 2};
        for (int i = 0; i < pairs.length; i++) {
            UnreadScript x = fresh();
            findName(x, 1);
            findName(x, 2);
            find(x, 5, 5, 1);
            find(x, 5, 5, 2);
            name(x, pairs[i][0]);
            name(x, pairs[i][1]);
            due("a row: " + pairs[i][0] + " " + pairs[i][1], x.readings(), inARow[i]);
            UnreadScript y = fresh();
            findName(y, 1);
            findName(y, 2);
            y.tell(0, 3);
            y.tell(1, 3);
            name(y, pairs[i][0]);
            name(y, pairs[i][1]);
            due("a column: " + pairs[i][0] + " " + pairs[i][1], y.readings(), inAColumn[i]);
        }
    }

    /** The same for signs at both ends. */
    private static void t4_rowsAndColumnsOfAnySign() {
        for (int a = 0; a < 20; a++) {
            int b = (a + 1) % 20;
            UnreadScript x = fresh();
            findName(x, a);
            findName(x, b);
            name(x, "ka");
            name(x, "te");
            due("free", x.readings(), 2);
            x.tell(0, 1);
            x.tell(1, 1);
            due("one vowel for " + a + " and " + b, x.readings(), 0);
            UnreadScript y = fresh();
            findName(y, a);
            findName(y, b);
            name(y, "ka");
            name(y, "te");
            find(y, 5, 5, a);
            find(y, 5, 5, b);
            due("one consonant for " + a + " and " + b, y.readings(), 0);
        }
    }

    /** "each SIGN ... has one VALUE": what an earlier word gave a sign stands while a later one is tried. */
    private static void t4_laterSignsOfAWordCount() {
        for (int sign = 0; sign < 20; sign++) {
            int second = (sign + 1) % 20;
            int third = (sign + 2) % 20;
            UnreadScript x = fresh();
            findName(x, sign);
            findName(x, sign, second);
            findName(x, sign, third);
            name(x, "ka");
            name(x, "kata");
            due("readings", x.readings(), 2);
            due("the second sign in the first", x.value(0, second), 8);
            due("the second sign in the other", x.value(1, second), NONE);
            due("the third sign in the other", x.value(1, third), 8);
            due("the shared sign", x.value(0, sign) * 100 + x.value(1, sign), 404);
            due("sure of it", x.sure(sign), 4);
            due("not of the second", x.sure(second), NONE);
            name(x, "kate");
            due("two ways still", x.readings(), 2);
            due("the shared sign is sure still", x.sure(sign), 4);
        }
        UnreadScript y = fresh();
        findName(y, GAP, 1);
        findName(y, 1);
        name(y, "kata");
        name(y, "ka");
        due("the sign behind a gap counts", y.readings(), 0);
        name(y, "ta");
        due("nor with a name too many", y.readings(), 0);
        UnreadScript z = fresh();
        findName(z, GAP, 1);
        findName(z, 1);
        name(z, "kata");
        name(z, "ta");
        due("the sign behind a gap counts", z.value(0, 1), 8);
    }

    /** The same: a value that can't be the sign's is refused for every word, not for the first alone. */
    private static void t4_aSignKeepsItsValueForEveryWord() {
        for (int sign = 0; sign < 20; sign++) {
            UnreadScript x = fresh();
            findName(x, sign);
            findName(x, sign, (sign + 1) % 20);
            findName(x, sign, (sign + 2) % 20);
            name(x, "ka");
            name(x, "teta");
            due("sign " + sign + " is ka", x.readings(), 0);
        }
    }

    /** Ways that lead to no reading leave no trace in what is sure. */
    private static void t4_waysThatEndNowhere() {
        UnreadScript x = fresh();
        findName(x, 1, 2);
        findName(x, 2, 1);
        findName(x, 1);
        name(x, "kata");
        name(x, "ka");
        // 2 1 as kata gives 2 the value ka, and then 1 can't be ka
        due("readings", x.readings(), 1);
        due("sure of 1", x.sure(1), 4);
        due("sure of 2", x.sure(2), 8);
        due("the word", x.reading(0, 0), 0);
        due("next", x.next(0) * 10 + x.next(1), 1);
        UnreadScript y = fresh();
        findName(y, 1, 1);
        findName(y, 2, 3);
        name(y, "kata");
        // 1 can be ka, but not ta then
        due("readings", y.readings(), 1);
        due("sure of 1", y.sure(1), NONE);
        due("sure of 2", y.sure(2), 4);
        UnreadScript z = fresh();
        findName(z, 1, 1);
        findName(z, 1, 3);
        name(z, "kata");
        due("sure of a sign that also failed", z.sure(1), 4);
    }

    /** "There is none if THE GRID is BROKEN." */
    private static void t4_noReadingOfABrokenGrid() {
        UnreadScript x = fresh();
        findName(x, 1);
        name(x, "a");
        find(x, 5, 5, 2);
        find(x, 5, 5, 3);
        x.tell(1, 0);
        due("one", x.readings(), 1);
        x.day(1);
        x.tell(2, 0);
        due("broken", x.breaker(), 4);
        due("none", x.readings(), 0);
        due("no word", x.reading(0, 0), NONE);
        due("no value", x.value(0, 1), NONE);
        due("nothing sure", x.sure(1), NONE);
        due("no next", x.next(0), NONE);
        due("no next", x.next(1), NONE);
        x.view(0);
        due("by the view before", x.readings(), 1);
        x.view(NONE);
        x.tell(2, 1);
        due("mended", x.readings(), 1);
    }

    /** "SURE of a SIGN: the VALUE that it has in all READINGS (one at least), none if it has none in one, or several." */
    private static void t4_sureOnlyOfWhatAllHave() {
        UnreadScript x = fresh();
        findName(x, 1, 2);
        due("no readings", x.sure(1), NONE);
        name(x, "kata");
        due("one reading", x.sure(1), 4);
        due("one reading", x.sure(2), 8);
        due("a sign that is nowhere", x.sure(3), NONE);
        findName(x, 1, 3);
        due("in both", x.sure(1), 4);
        due("in one of both", x.sure(2), NONE);
        due("in one of both", x.sure(3), NONE);
        name(x, "kati");
        due("two ways", x.readings(), 2);
        due("in both still", x.sure(1), 4);
        due("several values", x.sure(2), NONE);
    }

    /** A value of 0 may be sure as any other. */
    private static void t4_valueNoughtMayBeSure() {
        UnreadScript x = fresh();
        findName(x, 0);
        name(x, "a");
        due("sure", x.sure(0), 0);
        due("value", x.value(0, 0), 0);
        due("spelled", x.spelled(0, 0), 0);
        due("the word 0", x.reading(0, 0), 0);
    }

    /** "it is the same NAME's (or none's)", "of several the least WORD" */
    private static void t4_nextCountsNonesToo() {
        UnreadScript x = fresh();
        findName(x, 7, 7);
        findName(x, 1);
        findName(x, 2);
        findName(x, 3);
        name(x, "a");
        // word 0 is none's in all three; each other is a's in one and none's in two
        due("readings", x.readings(), 3);
        due("next", x.next(0), 1);
        due("left", x.next(1), 2);
        name(x, "e");
        // each is a's in two of six, e's in two, none's in two
        due("readings", x.readings(), 6);
        due("next", x.next(0), 1);
        due("left", x.next(1), 2);
        UnreadScript y = fresh();
        findName(y, 5);
        findName(y, 7, 7);
        name(y, "a");
        due("all have it, the least word", y.next(0), 0);
        due("all readings", y.next(1), 1);
        UnreadScript z = fresh();
        for (int s = 3; s >= 1; s--) findName(z, s);
        find(z, 5, 5, 1);
        find(z, 5, 5, 2);
        name(z, "ka");
        name(z, "ki");
        name(z, "te");
        // 3 is te in both readings; 1 and 2 are ka and ki, or ki and ka
        due("readings", z.readings(), 2);
        due("the first that parts them", z.next(0), 1);
        due("one is left", z.next(1), 1);
    }

    // Promises 1 to 8.

    /** "No WORDS, ACCOUNTS, NAMES, SPELLING; DAY 0, THE VIEW is NOW; no images." */
    private static void p01_aNewObjectHasNothing() {
        UnreadScript x = fresh();
        int[] want = {0, 0, 0, 0, 0, 0, NONE, 0, 0, 0};
        for (int what = 0; what < 10; what++) due("many " + what, x.many(what), want[what]);
        for (int k = 0; k < 3; k++) due("image " + k, x.again(k), false);
        due("word 0", x.about(0, 0), NO_SUCH);
        due("telling 0", x.telling(0, 0), NO_SUCH);
        due("account 0", x.count(0, true, 0, 0, 0, 0), NONE);
        due("name 0", x.spelled(0, 0), NONE);
        due("initial 0", x.initial(0), NONE);
        due("breaker", x.breaker(), NONE);
        due("fills", x.fills(0), NONE);
        due("odd", x.odd(0), NONE);
        due("next", x.next(0), NONE);
        faultIs(x, 0, NONE);
        for (int s = 0; s < 20; s++) due("row, column", x.row(s) * 100 + x.column(s), s * 101);
        due("an empty tape", x.end(1), NONE);
    }

    /** "No ... SPELLING": names are spelled without a line then, at every place. */
    private static void p01_namesWithoutASpelling() {
        UnreadScript x = fresh();
        name(x, "oktek");
        int[] want = {3, 5, 9, NONE};
        for (int k = 0; k < 4; k++) due("value " + k, x.spelled(0, k), want[k]);
        due("no lines", x.many(4), 0);
        spelling(x, "k end");
        for (int k = 0; k < 4; k++) due("value " + k + " behind a fault", x.spelled(0, k), want[k]);
        spelling(x, "");
        for (int k = 0; k < 4; k++) due("value " + k + " by a text of no line", x.spelled(0, k), want[k]);
    }

    /** Two objects share nothing. */
    private static void p01_objectsShareNothing() {
        UnreadScript x = lived();
        x.image(0);
        UnreadScript y = fresh();
        due("words of the other", y.many(0), 0);
        due("images of the other", y.again(0), false);
        due("the other's tape", y.end(1), NONE);
        find(y, 9);
        due("words of the first", x.many(0), 3);
        due("its sign", x.about(0, 10), 1);
    }

    /** "(0 at first)", "false: there is none such" */
    private static void p02_sitesAre0To3() {
        UnreadScript x = fresh();
        due("at first", x.about(find(x, 1), 1), 0);
        for (int s = 3; s >= 0; s--) {
            due("site " + s, x.site(s), true);
            due("its words", x.about(find(x, 1), 1), s);
        }
        x.site(2);
        for (int s : FAR) due("site " + s, x.site(s), false);
        due("site -1", x.site(NONE), false);
        due("site 4", x.site(4), false);
        due("the refused calls left it", x.about(find(x, 1), 1), 2);
        due("words found earlier stay", x.about(0, 1), 0);
    }

    /** "NONE: there are 60" */
    private static void p03_a61stWord() {
        UnreadScript x = fresh();
        for (int i = 0; i < 60; i++) due("word", find(x, i % 20), i);
        due("a 61st", find(x, 1), NONE);
        due("a 61st that may be a name's", findName(x, 1), NONE);
        due("words", x.many(0), 60);
        due("tellings", x.many(1), 60);
        due("use", x.use(1, 0), 3);
        due("a case may be told still", x.tell(59, 3), 60);
        due("of the last word", x.about(59, 4), 3);
    }

    /** "150 TELLINGS" */
    private static void p03_aWordBehind150Tellings() {
        UnreadScript x = fresh();
        find(x, 1);
        for (int i = 1; i < 149; i++) x.tell(0, i % 4);
        due("the 150th telling is a word", find(x, 2), 1);
        due("tellings", x.many(1), 150);
        due("no more words", find(x, 3), NONE);
        due("words", x.many(0), 2);
        due("tellings", x.many(1), 150);
        due("the refused one is nowhere", x.use(3, 0), 0);
    }

    /** "12 of these": of words that may be a name's. */
    private static void p03_a13thWordThatMayBeANames() {
        UnreadScript x = fresh();
        for (int i = 0; i < 12; i++) due("word", findName(x, i), i);
        due("a 13th", findName(x, 1), NONE);
        due("words", x.many(0), 12);
        due("one that may not", find(x, 1), 12);
        due("a 13th", findName(x, 1), NONE);
        due("tellings", x.many(1), 13);
    }

    /** "two GAPS" */
    private static void p03_twoGaps() {
        UnreadScript x = fresh();
        due("at the ends", x.word(false, GAP, 1, 2, 3, GAP), NONE);
        due("side by side", find(x, GAP, GAP), NONE);
        due("five", find(x, GAP, GAP, GAP, GAP, GAP), NONE);
        for (int at = 0; at < 5; at++) {
            int[] s = {1, 2, 3, 4, 5};
            s[at] = GAP;
            due("one", find(x, s), at);
        }
        due("words", x.many(0), 5);
    }

    /** "no SIGN" */
    private static void p03_noSign() {
        UnreadScript x = fresh();
        due("none", x.word(false, NONE, NONE, NONE, NONE, NONE), NONE);
        due("none", x.word(true, NONE, NONE, NONE, NONE, NONE), NONE);
        due("tellings", x.many(1), 0);
    }

    /** "or others": other numbers, or a sign behind NONE */
    private static void p03_otherNumbers() {
        UnreadScript x = fresh();
        for (int at = 0; at < 5; at++) {
            int[] s = {1, 2, 3, 4, 5};
            for (int other : FAR) {
                s[at] = other;
                due("sign " + other, find(x, s), NONE);
            }
            s[at] = 21;
            due("sign 21", find(x, s), NONE);
            s[at] = NONE;
            due("NONE at " + at, find(x, s), at == 4 ? 0 : NONE);
        }
        due("NONE ahead of a sign", x.word(false, NONE, NONE, NONE, NONE, 1), NONE);
        due("words", x.many(0), 1);
        due("tellings", x.many(1), 1);
    }

    /** A refused word that may be a name's takes none of the twelve. */
    private static void p03_arefusedWordTakesNoPlace() {
        UnreadScript x = fresh();
        for (int i = 0; i < 20; i++) findName(x, 21);
        for (int i = 0; i < 12; i++) due("word", findName(x, i), i);
        due("a 13th", findName(x, 1), NONE);
    }

    /** "there is none such (of either)" */
    private static void p04_noSuchWordOrCase() {
        UnreadScript x = fresh();
        due("no word", x.tell(0, 0), NONE);
        find(x, 1);
        for (int c = 0; c < 4; c++) due("case " + c, x.tell(0, c), 1 + c);
        due("case 4", x.tell(0, 4), NONE);
        due("case -1", x.tell(0, NONE), NONE);
        due("word 1", x.tell(1, 0), NONE);
        due("word -1", x.tell(NONE, 0), NONE);
        for (int far : FAR) {
            due("case " + far, x.tell(0, far), NONE);
            due("word " + far, x.tell(far, 0), NONE);
        }
        due("the refused calls left it", x.about(0, 4), 3);
        due("tellings", x.many(1), 5);
    }

    /** "or there are 150" */
    private static void p04_a151stTelling() {
        UnreadScript x = fresh();
        find(x, 1);
        for (int i = 1; i < 150; i++) due("telling", x.tell(0, i == 149 ? 2 : 1), i);
        due("a 151st", x.tell(0, 3), NONE);
        due("tellings", x.many(1), 150);
        due("the case of the 150th", x.about(0, 4), 2);
        due("the 150th", x.telling(149, 1), 2);
        due("no 151st", x.telling(150, 1), NO_SUCH);
    }

    /** "(told anew it is that)", by the last one of several of one day, too */
    private static void p04_aCaseToldAnew() {
        UnreadScript x = fresh();
        find(x, 1);
        x.tell(0, 1);
        x.tell(0, 0);
        due("of one day", x.about(0, 4), 0);
        x.day(2);
        x.tell(0, 3);
        due("of a later day", x.about(0, 4), 3);
        x.view(1);
        due("by the view", x.about(0, 4), 0);
        due("a case is told on the day of now, whatever the view", x.tell(0, 2), 4);
        due("by the view", x.about(0, 4), 0);
        x.view(2);
        due("by its own day", x.about(0, 4), 2);
    }

    /** "-2 if there is none such, or for another what" */
    private static void p05_noSuchWordOrWhat() {
        UnreadScript x = fresh();
        due("no word", x.about(0, 0), NO_SUCH);
        find(x, 1, 2, GAP, 4, 5);
        find(x, 19);
        int[] other = {-1, 5, 6, 7, 8, 9, 15, 16, 20, 29, 100};
        for (int what : other) due("what " + what, x.about(0, what), NO_SUCH);
        for (int far : FAR) {
            due("what " + far, x.about(0, far), NO_SUCH);
            due("word " + far, x.about(far, 0), NO_SUCH);
        }
        due("word -1", x.about(NONE, 0), NO_SUCH);
        due("word 2", x.about(2, 0), NO_SUCH);
        due("its last sign", x.about(0, 14), 5);
        due("the only sign", x.about(1, 10), 19);
        due("behind it", x.about(1, 11), NO_SUCH);
    }

    /** "its CASE by THE VIEW (NONE)"; the rest of a word is told whatever the view. */
    private static void p05_theCaseAloneIsByTheView() {
        UnreadScript x = fresh();
        x.day(9);
        x.site(3);
        findName(x, 6, 7);
        due("none told", x.about(0, 4), NONE);
        x.tell(0, 0);
        due("case 0", x.about(0, 4), 0);
        x.view(8);
        int[][] want = {{0, 2}, {1, 3}, {2, 9}, {3, 1}, {4, NONE}, {10, 6}, {11, 7}};
        for (int[] w : want) due("about " + w[0], x.about(0, w[0]), w[1]);
        x.view(9);
        due("on its day", x.about(0, 4), 0);
    }

    /** "-2 if there is none such, or for another what", "(whatever THE VIEW)", "(NONE: it was found)" */
    private static void p06_noSuchTellingOrWhat() {
        UnreadScript x = fresh();
        due("none yet", x.telling(0, 0), NO_SUCH);
        x.day(999);
        find(x, 1);
        x.tell(0, 0);
        x.view(0);
        due("it was found", x.telling(0, 1), NONE);
        due("case 0", x.telling(1, 1), 0);
        due("word", x.telling(1, 0), 0);
        due("day", x.telling(1, 2), 999);
        due("telling 2", x.telling(2, 0), NO_SUCH);
        due("telling -1", x.telling(NONE, 0), NO_SUCH);
        due("what 3", x.telling(0, 3), NO_SUCH);
        due("what -1", x.telling(0, NONE), NO_SUCH);
        for (int far : FAR) {
            due("telling " + far, x.telling(far, 0), NO_SUCH);
            due("what " + far, x.telling(0, far), NO_SUCH);
        }
    }

    /** "false: it is earlier than it was, or above 999" */
    private static void p07_daysGoFrom0To999() {
        UnreadScript x = fresh();
        due("day -1", x.day(NONE), false);
        due("day 1000", x.day(1000), false);
        due("still 0", x.many(5), 0);
        due("day 0 again", x.day(0), true);
        due("day 998", x.day(998), true);
        due("day 997", x.day(997), false);
        due("day 0", x.day(0), false);
        due("still 998", x.many(5), 998);
        due("day 999", x.day(999), true);
        for (int far : FAR) due("day " + far, x.day(far), false);
        due("day 999 again", x.day(999), true);
        due("day 1000", x.day(1000), false);
        due("still 999", x.many(5), 999);
        find(x, 1);
        due("found on it", x.about(0, 2), 999);
    }

    /** "false: it is later than now, or none" */
    private static void p08_viewsAreUpToNow() {
        UnreadScript x = fresh();
        due("view 0", x.view(0), true);
        due("many 6", x.many(6), 0);
        due("view 1", x.view(1), false);
        due("it stays", x.many(6), 0);
        due("NOW", x.view(NONE), true);
        due("many 6", x.many(6), NONE);
        x.day(999);
        due("view 999", x.view(999), true);
        due("view 998", x.view(998), true);
        due("view 1000", x.view(1000), false);
        for (int far : FAR) due("view " + far, x.view(far), false);
        due("it stays", x.many(6), 998);
        due("the day is not the view's", x.many(5), 999);
    }

    /** A day stays the view though now goes on; NOW goes on with it. */
    private static void p08_aViewStaysWhileNowGoesOn() {
        UnreadScript x = fresh();
        find(x, 1);
        x.view(0);
        x.day(1);
        find(x, 2);
        due("by the view", x.many(7), 1);
        due("use by the view", x.use(2, 0), 0);
        x.view(NONE);
        due("by now", x.many(7), 2);
        due("use by now", x.use(2, 0), 1);
        x.view(1);
        find(x, 3);
        due("told on the view's day", x.use(3, 0), 1);
    }

    // Promises 9 to 17.

    /** "NONE: there is none such." */
    private static void p09_rowsOfSignsAlone() {
        UnreadScript x = fresh();
        due("sign 0", x.row(0), 0);
        due("sign 19", x.row(19), 19);
        due("a gap", x.row(GAP), NONE);
        due("sign -1", x.row(NONE), NONE);
        for (int far : FAR) due("sign " + far, x.row(far), NONE);
        find(x, 5, 5, 19);
        find(x, 5, 5, 0);
        due("joined at the ends", x.row(19), 0);
    }

    /** "NONE: there is none such." */
    private static void p10_columnsOfSignsAlone() {
        UnreadScript x = fresh();
        due("sign 0", x.column(0), 0);
        due("sign 19", x.column(19), 19);
        due("a gap", x.column(GAP), NONE);
        due("sign -1", x.column(NONE), NONE);
        for (int far : FAR) due("sign " + far, x.column(far), NONE);
        find(x, 19);
        find(x, 0);
        x.tell(0, 3);
        x.tell(1, 3);
        due("joined at the ends", x.column(19), 0);
    }

    /** "NONE: THE GRID is not BROKEN." */
    private static void p11_noBreakerOfAGridThatStands() {
        UnreadScript x = fresh();
        due("empty", x.breaker(), NONE);
        find(x, 1, 2, 3);
        find(x, 1, 2, 4);
        due("a row alone", x.breaker(), NONE);
        x.tell(0, 0);
        x.tell(1, 1);
        due("two cases", x.breaker(), NONE);
        x.tell(1, 0);
        due("broken", x.breaker(), 4);
        x.tell(1, 2);
        due("mended", x.breaker(), NONE);
    }

    /** "the first TELLING by which it is (by those up to it)" */
    private static void p11_theFirstTellingByWhichItIs() {
        UnreadScript x = fresh();
        find(x, 1, 2, 3);
        find(x, 3);
        find(x, 4);
        x.tell(1, 0);
        x.day(1);
        x.tell(2, 0);
        due("not broken", x.breaker(), NONE);
        due("a word", find(x, 1, 2, 4), 3);
        due("broken by the word", x.breaker(), 5);
        find(x, 1, 2, 5);
        x.tell(4, 0);
        due("later breaks are not the first", x.breaker(), 5);
        x.view(1);
        due("by its own day", x.breaker(), 5);
        x.view(0);
        due("by the day before", x.breaker(), NONE);
    }

    /** Asked again, and with "one" asked in between, it is the same. */
    private static void p11_theBreakerAskedAgain() {
        UnreadScript x = fresh();
        find(x, 1, 2, 3);
        find(x, 1, 2, 4);
        find(x, 6);
        x.tell(2, 1);
        x.tell(1, 1);
        x.tell(0, 1);
        for (int i = 0; i < 3; i++) {
            due("breaker", x.breaker(), 5);
            due("one", x.one(3, 6), false);
        }
        x.tell(2, 0);
        due("still the first", x.breaker(), 5);
    }

    /** The last telling that there can be may be the breaker. */
    private static void p11_the150thTellingBreaksIt() {
        UnreadScript x = fresh();
        find(x, 1, 2, 3);
        find(x, 1, 2, 4);
        for (int i = 2; i < 149; i++) x.tell(0, 0);
        due("not yet", x.breaker(), NONE);
        due("the last telling", x.tell(1, 0), 149);
        due("the breaker", x.breaker(), 149);
    }

    /** "NONE: there is none such, or for another what." */
    private static void p12_usesOfSignsAlone() {
        UnreadScript x = fresh();
        due("not used", x.use(0, 0), 0);
        find(x, 0, 0, 0, 0, 0);
        find(x, GAP, 19);
        find(x, 19, GAP);
        int[][] want = {{0, 5, 1, 1}, {19, 2, 1, 1}};
        for (int[] w : want) for (int what = 0; what < 3; what++) due("use " + what + " of " + w[0], x.use(w[0], what), w[1 + what]);
        due("what 3", x.use(0, 3), NONE);
        due("what -1", x.use(0, NONE), NONE);
        due("a gap", x.use(GAP, 0), NONE);
        due("sign -1", x.use(NONE, 0), NONE);
        for (int far : FAR) {
            due("sign " + far, x.use(far, 0), NONE);
            due("what " + far, x.use(0, far), NONE);
        }
    }

    /** The greatest use there can be: 60 words of one sign five times. */
    private static void p12_theGreatestUse() {
        UnreadScript x = fresh();
        for (int i = 0; i < 60; i++) find(x, 8, 8, 8, 8, 8);
        due("all", x.use(8, 0), 300);
        due("first", x.use(8, 1), 60);
        due("last", x.use(8, 2), 60);
        due("initial", x.initial(0), 8);
        due("no second", x.initial(1), NONE);
    }

    /** "NONE: there is none such." */
    private static void p13_initialsOfUsedSignsAlone() {
        UnreadScript x = fresh();
        due("none is used", x.initial(0), NONE);
        find(x, GAP);
        due("a gap is none", x.initial(0), NONE);
        for (int s = 0; s < 20; s++) find(x, s);
        for (int k = 0; k < 20; k++) due("initial " + k, x.initial(k), k);
        due("initial 20", x.initial(20), NONE);
        due("initial -1", x.initial(NONE), NONE);
        for (int far : FAR) due("initial " + far, x.initial(far), NONE);
    }

    /** "NONE: there are no such two, or they are one." */
    private static void p14_noSuchTwo() {
        UnreadScript x = fresh();
        due("two that are not used", x.twins(0, 19), 0);
        due("they are one", x.twins(0, 0), NONE);
        due("they are one", x.twins(19, 19), NONE);
        int[] other = {NONE, GAP, LOWEST, HIGHEST};
        for (int o : other) {
            due("no such", x.twins(o, 1), NONE);
            due("no such", x.twins(1, o), NONE);
            due("no such", x.twins(o, o), NONE);
        }
        find(x, 1);
        find(x, GAP);
        due("a gap is no sign", x.twins(1, GAP), NONE);
    }

    /** Sixty words: 30 times 30 pairs. */
    private static void p14_asManyPairsAsThereCanBe() {
        UnreadScript x = fresh();
        for (int i = 0; i < 60; i++) find(x, 3, i % 2 == 0 ? 0 : 19, 3);
        due("pairs", x.twins(0, 19), 900);
    }

    /** "False, too, if there are no such two, or they are one." */
    private static void p15_noSuchTwo() {
        UnreadScript x = fresh();
        find(x, 1);
        x.site(1);
        find(x, 2, GAP);
        due("two", x.one(1, 2), true);
        due("they are one", x.one(1, 1), false);
        int[] other = {NONE, GAP, LOWEST, HIGHEST};
        for (int o : other) {
            due("no such", x.one(o, 1), false);
            due("no such", x.one(1, o), false);
            due("no such", x.one(o, o), false);
        }
    }

    /** "NONE: it has no GAP, or there is none such (by THE VIEW)." */
    private static void p16_fillsOfWordsWithAGapAlone() {
        UnreadScript x = fresh();
        due("no word", x.fills(0), NONE);
        find(x, 1, 2);
        due("it has no gap", x.fills(0), NONE);
        x.day(1);
        find(x, 1, GAP);
        due("one", x.fills(1), 1);
        due("word 2", x.fills(2), NONE);
        due("word -1", x.fills(NONE), NONE);
        for (int far : FAR) due("word " + far, x.fills(far), NONE);
        x.view(0);
        due("not by the view", x.fills(1), NONE);
        x.view(1);
        due("by the view", x.fills(1), 1);
        find(x, 1, 3);
        due("two", x.fills(1), 2);
    }

    /** "The k-th of them, from 0 on ... NONE: there is none such." */
    private static void p17_noSuchFill() {
        UnreadScript x = fresh();
        due("no word", x.fill(0, 0), NONE);
        find(x, 5, GAP);
        due("no fill", x.fill(0, 0), NONE);
        for (int s = 19; s >= 0; s--) find(x, 5, s);
        due("all signs", x.fills(0), 20);
        for (int k = 0; k < 20; k++) due("fill " + k, x.fill(0, k), k);
        for (int i = 21; i < 60; i++) find(x, 6, 6);
        due("of sixty words", x.fill(0, 19), 19);
        due("fill 20", x.fill(0, 20), NONE);
        due("fill -1", x.fill(0, NONE), NONE);
        due("a word without a gap", x.fill(1, 0), NONE);
        due("word -1", x.fill(NONE, 0), NONE);
        for (int far : FAR) {
            due("fill " + far, x.fill(0, far), NONE);
            due("word " + far, x.fill(far, 0), NONE);
        }
    }

    // Promises 18 to 23.

    /** "NONE: there are 10." */
    private static void p18_an11thAccount() {
        UnreadScript x = fresh();
        for (int i = 0; i < 10; i++) due("account", x.account(), i);
        due("an 11th", x.account(), NONE);
        due("accounts", x.many(2), 10);
        due("the last one has room", x.count(9, false, 0, 0, 0, 0), 1);
        due("no 11th", x.count(10, false, 0, 0, 0, 0), NONE);
    }

    /** "there is none such" */
    private static void p19_noSuchAccount() {
        UnreadScript x = fresh();
        due("none yet", x.count(0, false, 1, 1, 1, 1), NONE);
        x.account();
        due("the first", x.count(0, false, 1, 1, 1, 1), 1);
        due("account 1", x.count(1, false, 1, 1, 1, 1), NONE);
        due("account -1", x.count(NONE, true, 1, 1, 1, 1), NONE);
        for (int far : FAR) due("account " + far, x.count(far, true, 1, 1, 1, 1), NONE);
        due("nothing came", x.sets(), 1331);
        due("account 1 comes empty", x.account(), 1);
        due("its first row", x.count(1, false, 1, 1, 1, 1), 1);
    }

    /** "there are 6 (of a plain one)" */
    private static void p19_a7thPlainRow() {
        UnreadScript x = fresh();
        x.account();
        x.account();
        for (int i = 1; i <= 6; i++) due("plain row", x.count(0, false, 1, 0, 0, 0), i);
        due("a 7th", x.count(0, false, 1, 0, 0, 0), NONE);
        due("the total", x.count(0, true, 0, 1, 0, 0), 6);
        due("six of them", x.sureRatio(0), 6);
        due("the total anew", x.count(0, true, 0, 2, 0, 0), 6);
        due("told anew it is that", x.sureRatio(0), 3);
        due("a 7th", x.count(0, false, 1, 0, 0, 0), NONE);
        due("the other account", x.count(1, false, 1, 0, 0, 0), 1);
        due("a total is no plain row", x.count(1, true, 1, 0, 0, 0), 1);
    }

    /** "or other counts": 0 .. 9 each */
    private static void p19_otherCounts() {
        UnreadScript x = fresh();
        x.account();
        int[] other = {NONE, 10, 16, LOWEST, HIGHEST};
        for (int o : other) {
            for (int at = 0; at < 4; at++) {
                int[] c = {0, 0, 0, 0};
                c[at] = o;
                due("plain " + o, x.count(0, false, c[0], c[1], c[2], c[3]), NONE);
                due("total " + o, x.count(0, true, c[0], c[1], c[2], c[3]), NONE);
            }
        }
        due("9 each", x.count(0, false, 9, 9, 9, 9), 1);
        due("without a total", x.sets(), 1331);
        due("9 each", x.count(0, true, 9, 9, 9, 9), 1);
        due("they agree", x.sets(), 1331);
        due("0 each", x.count(0, true, 0, 0, 0, 0), 1);
        due("they do not", x.sets(), 0);
    }

    /** A row is told on its day; the answer counts all plain rows, whatever the view. */
    private static void p19_rowsHaveDays() {
        UnreadScript x = fresh();
        x.account();
        x.count(0, false, 4, 0, 0, 0);
        x.count(0, true, 0, 1, 0, 0);
        x.day(1);
        x.view(0);
        due("the second row", x.count(0, false, 4, 0, 0, 0), 2);
        due("not by the view", x.sureRatio(0), 4);
        x.view(1);
        due("by its day", x.sureRatio(0), 8);
        x.day(2);
        x.count(0, true, 8, 0, 0, 0);
        due("a total told later", x.sureRatio(0), 8);
        due("all by the old one", x.sets(), 121);
        x.view(NONE);
        due("the new one agrees by all", x.sets(), 1331);
    }

    /** No account that counts: each set does; one that never agrees: none does. */
    private static void p20_allSetsAndNone() {
        UnreadScript x = fresh();
        due("no account", x.sets(), 1331);
        x.account();
        due("an empty account", x.sets(), 1331);
        x.count(0, false, 1, 0, 0, 0);
        due("a plain row", x.sets(), 1331);
        x.count(0, true, 0, 0, 0, 0);
        due("never", x.sets(), 0);
        x.count(0, true, 1, 0, 0, 0);
        due("always", x.sets(), 1331);
    }

    /** "NONE: there is none such (of either)." */
    private static void p21_noSuchSetOrRatio() {
        UnreadScript x = fresh();
        due("the last set", x.ratio(1330, 2), 12);
        due("set 1331", x.ratio(1331, 0), NONE);
        due("set -1", x.ratio(NONE, 0), NONE);
        due("ratio 3", x.ratio(0, 3), NONE);
        due("ratio -1", x.ratio(0, NONE), NONE);
        for (int far : FAR) {
            if (far != 1000) due("set " + far, x.ratio(far, 0), NONE);
            due("ratio " + far, x.ratio(0, far), NONE);
        }
        x.account();
        firstRatio(x, 0, 12);
        due("the last of 121", x.ratio(120, 0) * 10000 + x.ratio(120, 1) * 100 + x.ratio(120, 2), 121212);
        due("set 121", x.ratio(121, 0), NONE);
        x.count(0, true, 0, 0, 0, 0);
        due("no sets", x.ratio(0, 0), NONE);
    }

    /** "if it is the same in all SETS (one at least). NONE: it is not, or there is none such." */
    private static void p22_sureOfNoneAndOfSeveral() {
        UnreadScript x = fresh();
        for (int i = 0; i < 3; i++) due("several", x.sureRatio(i), NONE);
        due("ratio 3", x.sureRatio(3), NONE);
        due("ratio -1", x.sureRatio(NONE), NONE);
        for (int far : FAR) due("ratio " + far, x.sureRatio(far), NONE);
        x.account();
        firstRatio(x, 0, 2);
        due("the least", x.sureRatio(0), 2);
        due("several", x.sureRatio(1), NONE);
        x.count(0, true, 0, 0, 0, 1);
        due("no sets", x.sets(), 0);
        for (int i = 0; i < 3; i++) due("no sets", x.sureRatio(i), NONE);
    }

    /** "NONE: there is none such." */
    private static void p23_noSuchOdd() {
        UnreadScript x = fresh();
        due("no account", x.odd(0), NONE);
        for (int i = 0; i < 10; i++) x.account();
        x.count(9, false, 1, 0, 0, 0);
        x.count(9, true, 0, 0, 0, 0);
        due("the one that counts", x.odd(0), 9);
        due("no second", x.odd(1), NONE);
        due("odd -1", x.odd(NONE), NONE);
        for (int far : FAR) due("odd " + far, x.odd(far), NONE);
        x.count(0, false, 1, 0, 0, 0);
        x.count(0, true, 0, 0, 0, 0);
        due("two that never agree", x.odd(0), NONE);
    }

    /** "an ACCOUNT that counts, without which there would be one": a pair of which each would do, in order. */
    private static void p23_oddOnesInOrder() {
        UnreadScript x = fresh();
        for (int i = 0; i < 10; i++) x.account();
        firstRatio(x, 9, 12);
        firstRatio(x, 0, 2);
        due("the first", x.odd(0), 0);
        due("the second", x.odd(1), 9);
        due("no third", x.odd(2), NONE);
        firstRatio(x, 5, 7);
        due("three that all differ", x.odd(0), NONE);
        firstRatio(x, 5, 2);
        x.count(5, true, 9, 0, 0, 0);
        due("one that agrees by all is not odd", x.odd(1), 9);
    }

    // Promises 24 to 29.

    /** "NONE, and nothing comes, if there would be more than 400." */
    private static void p24_moreThan400Bytes() {
        UnreadScript x = fresh();
        for (int n = 20; n <= 400; n += 20) due("feed", x.feed(0x20202020, 0x20202020, 0x20202020, 0x20202020, 0x20202020), n);
        due("a 21st", x.feed(0x6b6b6b6b, 0, 0, 0, 0), NONE);
        due("400", x.end(400), 400);
        due("to 381", x.end(381), 381);
        due("381 and 20", x.feed(0x6b6b6b6b, 0, 0, 0, 0), NONE);
        due("nothing came", x.end(382), NONE);
        due("to 380", x.end(380), 380);
        due("380 and 20", x.feed(0x20202020, 0x20202020, 0x20202020, 0x20202020, 0x20202020), 400);
        due("blanks alone", x.spelling(), 0);
    }

    /** "of each number the highest first": all four bytes of all five numbers. */
    private static void p24_theHighestByteFirst() {
        UnreadScript x = fresh();
        // n_end:last; and nine blanks
        due("feed", x.feed(0x6e20656e, 0x643a6c61, 0x73743b20, 0x20202020, 0x20202021), 20);
        due("a line, and a byte that is none", x.spelling(), NONE);
        faultIs(x, 1, 19);
        due("feed", x.feed(0x6e20656e, 0x643a6c61, 0x73743b20, 0x20202020, 0x20202020), 20);
        due("a line", x.spelling(), 1);
        for (int number = 0; number < 5; number++) {
            for (int shift = 0; shift < 4; shift++) {
                int[] f = {0x20202020, 0x20202020, 0x20202020, 0x20202020, 0x20202020};
                f[number] = f[number] & ~(255 << 8 * shift) | 200 << 8 * shift;
                x.feed(f[0], f[1], f[2], f[3], f[4]);
                x.spelling();
                faultIs(x, 1, 4 * number + 3 - shift);
            }
        }
        x.feed(-1, -1, -1, -1, -1);
        due("255 is a byte", x.name(), NONE);
        faultIs(x, 1, 0);
    }

    /** "NONE if it has not so many, or n is below 0." */
    private static void p25_endBeyondTheTape() {
        UnreadScript x = fresh();
        due("0 of none", x.end(0), 0);
        due("1 of none", x.end(1), NONE);
        x.feed(0x61616161, 0, 0, 0, 0);
        due("21 of 20", x.end(21), NONE);
        due("-1", x.end(NONE), NONE);
        for (int far : FAR) due("end " + far, x.end(far), NONE);
        due("20 of 20", x.end(20), 20);
        due("10 of 20", x.end(10), 10);
        due("11 of 10", x.end(11), NONE);
        due("0 of 10", x.end(0), 0);
        due("1 of 0", x.end(1), NONE);
    }

    /** "The tape has its first n bytes alone": what comes next stands behind them. */
    private static void p25_feedBehindTheEnd() {
        UnreadScript x = fresh();
        write(x, 0, "ka");
        due("behind two", write(x, 2, "te"), 4);
        due("name", x.name(), 0);
        due("ka", x.spelled(0, 0), 4);
        due("te", x.spelled(0, 1), 9);
        due("no third", x.spelled(0, 2), NONE);
    }

    /** "The tape is taken (and is empty then)", with and without a FAULT */
    private static void p26_theTapeIsEmptyThen() {
        UnreadScript x = fresh();
        due("a name", name(x, "ka"), 0);
        due("empty", x.end(1), NONE);
        due("a fault", name(x, "xx"), NONE);
        due("empty", x.end(1), NONE);
        due("no letter at all now", x.name(), NONE);
        faultIs(x, 1, 0);
    }

    /** "NONE: a FAULT.": no name comes of it. */
    private static void p26_aFaultIsNoName() {
        UnreadScript x = fresh();
        due("none", name(x, "kax"), NONE);
        faultIs(x, 1, 2);
        due("names", x.many(3), 0);
        due("names by the view", x.many(8), 0);
        due("not spelled", x.spelled(0, 0), NONE);
        due("the next one is 0", name(x, "ka"), 0);
    }

    /** "-2: there are 5 (no text is read then, FAULT 0)." */
    private static void p26_aSixthName() {
        UnreadScript x = fresh();
        String[] names = {"a", "e", "i", "o", "ka"};
        for (int i = 0; i < 5; i++) due("name", name(x, names[i]), i);
        spelling(x, "!");
        faultIs(x, 1, 0);
        due("a sixth", name(x, "to"), NO_SUCH);
        faultIs(x, 0, NONE);
        spelling(x, "!");
        due("one with a fault", name(x, "xxx"), NO_SUCH);
        faultIs(x, 0, NONE);
        due("of an empty tape", x.name(), NO_SUCH);
        faultIs(x, 0, NONE);
        due("names", x.many(3), 5);
        due("the fifth", x.spelled(4, 0), 4);
        due("no sixth", x.spelled(5, 0), NONE);
    }

    /** "The tape is taken (and is empty then)": of a sixth name, too, though no text is read. */
    private static void p26_aSixthNameTakesTheTape() {
        UnreadScript x = fresh();
        for (int i = 0; i < 5; i++) name(x, "a");
        write(x, 0, "kakaka");
        due("a sixth", x.name(), NO_SUCH);
        due("empty", x.end(1), NONE);
        due("feed starts anew", x.feed(0x6b206f70, 0x656e3a64, 0x726f703b, 0x20202020, 0x20202020), 20);
        due("a line", x.spelling(), 1);
    }

    /** A name with a fault takes none of the five. */
    private static void p26_faultsTakeNoPlace() {
        UnreadScript x = fresh();
        for (int i = 0; i < 8; i++) due("a fault", name(x, "b"), NONE);
        for (int i = 0; i < 5; i++) due("name", name(x, "a"), i);
        due("a sixth", name(x, "a"), NO_SUCH);
    }

    /** "The tape is taken (and is empty then)", with and without a FAULT */
    private static void p27_theTapeIsEmptyThen() {
        UnreadScript x = fresh();
        due("a line", spelling(x, "k open:drop;"), 1);
        due("empty", x.end(1), NONE);
        due("a fault", spelling(x, "k"), NONE);
        due("empty", x.end(1), NONE);
        due("no line at all now", x.spelling(), 0);
    }

    /** "as SPELLING from now on": anew it is the new one alone; with a FAULT there is no new one. */
    private static void p27_spellingFromNowOn() {
        UnreadScript x = fresh();
        name(x, "kato");
        due("lines", spelling(x, "k open:as r;t open:as s;"), 2);
        due("k as r", x.spelled(0, 0), 24);
        due("t as s", x.spelled(0, 1), 19);
        due("a fault", spelling(x, "k open:as n;t"), NONE);
        due("k as r still", x.spelled(0, 0), 24);
        due("lines still", x.many(4), 2);
        due("another", spelling(x, "k open:as n;"), 1);
        due("k as n", x.spelled(0, 0), 20);
        due("t as itself", x.spelled(0, 1), 11);
        due("lines", x.many(4), 1);
    }

    /** The longest text that the tape can hold, with and without a fault. */
    private static void p27_aTextOf400Bytes() {
        String line = "k cluster : as t ;       ";
        UnreadScript x = fresh();
        due("the tape is full", write(x, 0, line.repeat(16)), 400);
        due("16 lines", x.spelling(), 16);
        due("the tape is full", write(x, 0, line.repeat(15) + "k cluster : as t        ;"), 400);
        due("16 lines", x.spelling(), 16);
        due("the tape is full", write(x, 0, line.repeat(15) + "k cluster : as t         "), 400);
        due("the end", x.spelling(), NONE);
        faultIs(x, 1, 400);
        due("the tape is full", write(x, 0, "k".repeat(400)), 400);
        due("one long word", x.spelling(), NONE);
        faultIs(x, 1, 0);
    }

    /** "0 without, 1: its place, NONE without. NONE for another what." */
    private static void p28_faultsAndNoFaults() {
        UnreadScript x = fresh();
        faultIs(x, 0, NONE);
        due("what 2", x.fault(2), NONE);
        due("what -1", x.fault(NONE), NONE);
        for (int far : FAR) due("what " + far, x.fault(far), NONE);
        name(x, "kb");
        faultIs(x, 1, 1);
        due("what 2", x.fault(2), NONE);
        name(x, "k");
        faultIs(x, 0, NONE);
    }

    /** "Of the latest name() or spelling()" */
    private static void p28_theLatestOfBoth() {
        UnreadScript x = fresh();
        spelling(x, "k end:echo;");
        faultIs(x, 2, 6);
        find(x, 1);
        x.feed(0, 0, 0, 0, 0);
        x.end(0);
        x.day(3);
        faultIs(x, 2, 6);
        name(x, "kakakakakak");
        faultIs(x, 2, 10);
        spelling(x, "");
        faultIs(x, 0, NONE);
        name(x, "");
        faultIs(x, 1, 0);
        name(x, "a");
        faultIs(x, 0, NONE);
        spelling(x, "k end:drop;".repeat(17));
        faultIs(x, 3, 176);
    }

    /** "NONE: there is none such, or it is not SPELLED." */
    private static void p29_noSuchNameOrValue() {
        UnreadScript x = fresh();
        due("no name", x.spelled(0, 0), NONE);
        name(x, "kateposini");
        due("the last value", x.spelled(0, 4), 22);
        due("value 5", x.spelled(0, 5), NONE);
        due("value -1", x.spelled(0, NONE), NONE);
        due("name 1", x.spelled(1, 0), NONE);
        due("name -1", x.spelled(NONE, 0), NONE);
        for (int far : FAR) {
            due("value " + far, x.spelled(0, far), NONE);
            due("name " + far, x.spelled(far, 0), NONE);
        }
        name(x, "aeioae");
        for (int k = 0; k < 6; k++) due("six values", x.spelled(1, k), NONE);
        name(x, "kt");
        due("no value", x.spelled(2, 0), NONE);
        spelling(x, "t end:last;");
        due("still none", x.spelled(2, 0), NONE);
        spelling(x, "k open:drop;");
        due("spelled anew", x.spelled(0, 0), 0);
    }

    /** A name is asked for by the view. */
    private static void p29_namesByTheView() {
        UnreadScript x = fresh();
        name(x, "a");
        x.day(2);
        name(x, "e");
        x.view(1);
        due("the first", x.spelled(0, 0), 0);
        due("not yet", x.spelled(1, 0), NONE);
        due("names by the view", x.many(8), 1);
        x.view(2);
        due("on its day", x.spelled(1, 0), 1);
    }

    // Promises 30 to 37.

    /** The most there can be: 12 * 11 * 10 * 9 * 8. */
    private static void p30_theMostReadings() {
        UnreadScript x = fresh();
        for (int i = 0; i < 12; i++) findName(x, i);
        String[] names = {"a", "e", "i", "o", "ka"};
        int due = 1;
        due("no name", x.readings(), 0);
        for (int n = 0; n < 5; n++) {
            name(x, names[n]);
            due *= 12 - n;
            due("of " + (n + 1), x.readings(), due);
        }
        for (int n = 0; n < 5; n++) {
            due("the first", x.reading(0, n), n);
            due("the last", x.reading(95039, n), 11 - n);
            due("behind the last", x.reading(95040, n), NONE);
            due("sign " + n + " in the first", x.value(0, n), n);
            due("sign " + (11 - n) + " in the last", x.value(95039, 11 - n), n);
        }
        due("next", x.next(0), 0);
        due("none's in 11 * 10 * 9 * 8 * 7", x.next(1), 55440);
    }

    /** No word fits, or there are fewer words than names. */
    private static void p30_noReading() {
        UnreadScript x = fresh();
        name(x, "ka");
        due("no word", x.readings(), 0);
        findName(x, 1, 2);
        due("none of one sign", x.readings(), 0);
        findName(x, 1);
        due("one", x.readings(), 1);
        name(x, "kako");
        due("ka and kako", x.readings(), 1);
        name(x, "te");
        due("three names, two words", x.readings(), 0);
    }

    /** "NONE: there is none such (of either), or the NAME is not SPELLED." */
    private static void p31_noSuchReadingOrName() {
        UnreadScript x = fresh();
        due("nothing", x.reading(0, 0), NONE);
        findName(x, 1);
        findName(x, 2);
        name(x, "k");
        name(x, "ka");
        due("readings", x.readings(), 2);
        due("the first", x.reading(0, 1), 0);
        due("the last", x.reading(1, 1), 1);
        due("reading 2", x.reading(2, 1), NONE);
        due("reading -1", x.reading(NONE, 1), NONE);
        due("not spelled", x.reading(0, 0), NONE);
        due("name 2", x.reading(0, 2), NONE);
        due("name -1", x.reading(0, NONE), NONE);
        for (int far : FAR) {
            due("reading " + far, x.reading(far, 1), NONE);
            due("name " + far, x.reading(0, far), NONE);
        }
        due("asked in another order", x.reading(1, 1) * 10 + x.reading(0, 1), 10);
    }

    /** "READINGS are in order by the WORDS of the NAMES, the first NAME's first." */
    private static void p31_readingsAreInOrder() {
        UnreadScript x = fresh();
        find(x, 9);
        for (int i = 0; i < 3; i++) findName(x, i);
        name(x, "ka");
        name(x, "k");
        name(x, "to");
        int[] want = {12, 13, 21, 23, 31, 32};
        due("readings", x.readings(), 6);
        for (int k = 5; k >= 0; k--) due("reading " + k, x.reading(k, 0) * 10 + x.reading(k, 2), want[k]);
        for (int k = 0; k < 6; k++) due("reading " + k, x.reading(k, 2), want[k] % 10);
    }

    /** "NONE: it has none, or there is none such (of either)." */
    private static void p32_noSuchValue() {
        UnreadScript x = fresh();
        due("nothing", x.value(0, 0), NONE);
        findName(x, 1, GAP);
        findName(x, 19, 0);
        name(x, "kata");
        due("readings", x.readings(), 2);
        due("sign 1", x.value(0, 1), 4);
        due("sign 1 in the other", x.value(1, 1), NONE);
        due("sign 19", x.value(1, 19), 4);
        due("sign 0", x.value(1, 0), 8);
        due("sign 19 in the other", x.value(0, 19), NONE);
        due("a gap", x.value(0, GAP), NONE);
        due("sign -1", x.value(0, NONE), NONE);
        due("reading 2", x.value(2, 19), NONE);
        due("reading -1", x.value(NONE, 19), NONE);
        for (int far : FAR) {
            due("sign " + far, x.value(0, far), NONE);
            due("reading " + far, x.value(far, 1), NONE);
        }
    }

    /** "NONE: none, or there is none such." */
    private static void p33_sureOfNoSuchSign() {
        UnreadScript x = fresh();
        findName(x, 0, 19);
        name(x, "otro");
        due("not spelled by two", x.sure(0), NONE);
        name(x, "oro");
        due("three values, and two", x.readings(), 0);
        UnreadScript y = fresh();
        findName(y, 0, 19);
        name(y, "oro");
        due("sign 0", y.sure(0), 3);
        due("sign 19", y.sure(19), 27);
        due("a gap", y.sure(GAP), NONE);
        due("sign -1", y.sure(NONE), NONE);
        due("a sign without a value", y.sure(1), NONE);
        for (int far : FAR) due("sign " + far, y.sure(far), NONE);
    }

    /** Several values: none is sure, whichever comes first or last. */
    private static void p33_severalValues() {
        UnreadScript x = fresh();
        findName(x, 1);
        findName(x, 2);
        findName(x, 1);
        name(x, "ka");
        name(x, "ti");
        // 1 is ka, then ti, then ka: (0,1) (1,0) (1,2) (2,1)
        due("readings", x.readings(), 4);
        due("of 1", x.sure(1), NONE);
        due("of 2", x.sure(2), NONE);
    }

    /** "NONE: there are no READINGS, or for another what." */
    private static void p34_noNext() {
        UnreadScript x = fresh();
        due("nothing", x.next(0), NONE);
        due("nothing", x.next(1), NONE);
        findName(x, 1);
        due("no readings", x.next(0), NONE);
        name(x, "kata");
        due("no readings", x.next(1), NONE);
        name(x, "ka");
        due("no readings of both", x.next(0), NONE);
        findName(x, 1, 2);
        due("one reading", x.readings(), 1);
        due("the least word", x.next(0), 0);
        due("one is left", x.next(1), 1);
        due("what 2", x.next(2), NONE);
        due("what -1", x.next(NONE), NONE);
        for (int far : FAR) due("what " + far, x.next(far), NONE);
    }

    /** "-2 for another what" */
    private static void p35_manyOfAnotherWhat() {
        UnreadScript x = lived();
        int[] want = {3, 5, 1, 1, 1, 5, NONE, 3, 1, 4};
        for (int what = 0; what < 10; what++) due("many " + what, x.many(what), want[what]);
        due("what 10", x.many(10), NO_SUCH);
        due("what -1", x.many(NONE), NO_SUCH);
        for (int far : FAR) due("what " + far, x.many(far), NO_SUCH);
    }

    /** Every count at its greatest. */
    private static void p35_theGreatestCounts() {
        UnreadScript x = fresh();
        for (int i = 0; i < 60; i++) found(x, i < 12, i % 20, i % 20);
        for (int i = 60; i < 150; i++) x.tell(i % 60, i % 4);
        for (int i = 0; i < 11; i++) x.account();
        for (int i = 0; i < 6; i++) name(x, "a");
        spelling(x, "k open:drop;".repeat(16));
        x.day(999);
        x.view(999);
        int[] want = {60, 150, 10, 5, 16, 999, 999, 60, 5, 20};
        for (int what = 0; what < 10; what++) due("many " + what, x.many(what), want[what]);
    }

    /** "Image k (0 .. 2)", "false for another k" */
    private static void p36_imagesAre0To2() {
        UnreadScript x = fresh();
        due("image 3", x.image(3), false);
        due("image -1", x.image(NONE), false);
        for (int far : FAR) due("image " + far, x.image(far), false);
        for (int k = 0; k < 3; k++) due("none yet", x.again(k), false);
        for (int k = 0; k < 3; k++) {
            find(x, k);
            due("image " + k, x.image(k), true);
        }
        for (int k = 2; k >= 0; k--) {
            due("again " + k, x.again(k), true);
            due("its words", x.many(0), k + 1);
        }
    }

    /** "as it is now": made anew it is the new one alone; what comes later does not change it. */
    private static void p36_anImageMadeAnew() {
        UnreadScript x = lived();
        x.image(1);
        find(x, 9);
        x.image(1);
        find(x, 10);
        x.again(1);
        due("words", x.many(0), 4);
        due("the second one's", x.about(3, 10), 9);
        x.again(1);
        due("again and again", x.many(0), 4);
        due("no other image", x.again(0), false);
        due("no other image", x.again(2), false);
    }

    /** "all that is told (the tape, the FAULT, too)" */
    private static void p36_allThatIsTold() {
        UnreadScript x = lived();
        x.view(4);
        String by4 = state(x);
        x.image(0);
        x.day(9);
        x.site(0);
        x.view(NONE);
        findName(x, 7);
        x.tell(0, 0);
        x.tell(1, 0);
        x.count(0, true, 0, 2, 0, 0);
        x.account();
        name(x, "e");
        spelling(x, "k open:as t;t open:drop;");
        write(x, 0, "kokoko");
        due("another state", state(x).equals(by4), false);
        due("again", x.again(0), true);
        due("the same state", state(x).equals(by4), true);
        due("the tape's end", x.end(3), NONE);
        due("the tape", x.name(), 1);
        x.view(NONE);
        due("its bytes", x.spelled(1, 0), 14);
        due("no more", x.spelled(1, 1), NONE);
        due("the site", x.about(find(x, 1), 1), 2);
        due("eleven words that may be a name's", x.about(0, 3), 1);
        for (int i = 0; i < 11; i++) due("as many as were left", findName(x, 1), 4 + i);
        due("no more", findName(x, 1), NONE);
    }

    /** The same, with every row full. */
    private static void p36_anImageOfAFullObject() {
        UnreadScript x = fresh();
        x.day(999);
        for (int i = 0; i < 60; i++) found(x, i >= 48, i % 20, 1, 2, 3, i % 19);
        for (int i = 60; i < 150; i++) x.tell(i % 60, i % 4);
        for (int i = 0; i < 10; i++) x.account();
        for (int i = 0; i < 60; i++) x.count(i / 6, false, 9, 9, 9, 9);
        for (int i = 0; i < 10; i++) x.count(i, true, 9, 9, 9, 9);
        for (int i = 0; i < 5; i++) name(x, i < 4 ? "kakekikoka" : "eeeeeeeeee");
        spelling(x, "k open:as r;".repeat(16));
        write(x, 0, " ".repeat(399) + "!");
        for (int k = 0; k < 3; k++) due("image " + k, x.image(k), true);
        due("taken", x.spelling(), NONE);
        faultIs(x, 1, 399);
        for (int k = 2; k >= 0; k--) {
            due("again " + k, x.again(k), true);
            int[] want = {60, 150, 10, 5, 16, 999, NONE, 60, 5, 20};
            for (int what = 0; what < 10; what++) due("many " + what, x.many(what), want[what]);
            due("the last sign", x.about(59, 14), 59 % 19);
            due("the last telling", x.telling(149, 0) * 10 + x.telling(149, 1), 291);
            due("the first name", x.spelled(0, 4), 24);
            due("the last name has ten values", x.spelled(4, 0), NONE);
            due("no room for a row", x.count(9, false, 0, 0, 0, 0), NONE);
            due("nor on the tape", x.feed(0, 0, 0, 0, 0), NONE);
            faultIs(x, 0, NONE);
            due("the tape", x.spelling(), NONE);
            faultIs(x, 1, 399);
        }
    }

    /** "false if there is none such": then all is as it was. */
    private static void p37_noSuchImage() {
        UnreadScript x = lived();
        String before = state(x);
        due("again 0", x.again(0), false);
        due("again 3", x.again(3), false);
        due("again -1", x.again(NONE), false);
        for (int far : FAR) due("again " + far, x.again(far), false);
        due("all as it was", state(x).equals(before), true);
        due("the tape as it was", x.end(2), 2);
        x.image(2);
        due("again 1", x.again(1), false);
        due("again 2", x.again(2), true);
        due("all as it was", state(x).equals(before), true);
    }

    /** The day goes back with all that is, and full rows have room again. */
    private static void p37_fullRowsHaveRoomAgain() {
        UnreadScript x = fresh();
        x.image(0);
        for (int round = 0; round < 2; round++) {
            x.day(999);
            for (int i = 0; i < 60; i++) due("word", found(x, i < 12, 1), i);
            for (int i = 60; i < 150; i++) due("telling", x.tell(0, 0), i);
            for (int i = 0; i < 10; i++) due("account", x.account(), i);
            for (int i = 1; i <= 6; i++) due("row", x.count(0, false, 0, 0, 0, 0), i);
            due("a 7th row", x.count(0, false, 0, 0, 0, 0), NONE);
            for (int i = 0; i < 5; i++) due("name", name(x, "a"), i);
            due("the tape is full", write(x, 0, " ".repeat(400)), 400);
            due("again", x.again(0), true);
            due("the day", x.many(5), 0);
            due("the tape", x.end(1), NONE);
        }
    }

    /** "All that is as image k has it": what was told over the same places since is gone. */
    private static void p37_anotherHistoryOverTheSamePlaces() {
        UnreadScript x = fresh();
        x.image(0);
        history(x, 1);
        x.image(1);
        x.again(0);
        history(x, 2);
        x.image(2);
        for (int round = 0; round < 2; round++) {
            for (int h = 1; h <= 2; h++) {
                due("again " + h, x.again(h), true);
                isHistory(x, h);
            }
        }
        x.again(0);
        due("nothing", x.many(0) + x.many(1) + x.many(2) + x.many(3) + x.many(4) + x.many(5), 0);
        faultIs(x, 0, NONE);
    }

    /** Of each kind of thing some, of which every part is another in history 1 and 2. */
    private static void history(UnreadScript x, int h) {
        x.site(h);
        x.day(10 * h);
        found(x, h == 1, h, h + 1, h == 1 ? GAP : 7, 8, 10 + h);
        found(x, h == 2, h, h + 1, h == 1 ? 7 : GAP, 8, 12 + h);
        find(x, h == 1 ? new int[] {1, 1, 1, 17} : new int[] {2, 2, 2, 2, 18});
        x.tell(h, h);
        for (int i = 0; i < 10; i++) x.account();
        for (int i = 0; i < 2 * h; i++) x.count(9, false, 2, 0, 0, 0);
        x.count(9, true, 0, 1, 0, 0);
        name(x, h == 1 ? "or" : "pepipopapi");
        x.day(10 * h + h);
        name(x, h == 1 ? "kakekikoka" : "so");
        spelling(x, h == 1 ? "r end:as k;" : "r end:as t;k cluster:drop;");
        x.day(100);
        name(x, h == 1 ? "tatetitota" : "kkkkkkkkir");
        spelling(x, h == 1 ? "k open:last;" : "kk");
        write(x, 0, h == 1 ? "tata" : "ni");
        x.view(h);
    }

    private static void isHistory(UnreadScript x, int h) {
        due("the view", x.many(6), h);
        faultIs(x, h == 1 ? 2 : 1, h == 1 ? 7 : 0);
        x.view(NONE);
        int[] many = {3, 4, 10, 3, h, 100, NONE, 3, 3, 7};
        for (int what = 0; what < 10; what++) due("many " + what, x.many(what), many[what]);
        int[] first = {5, h, 10 * h, h == 1 ? 1 : 0, NONE};
        for (int what = 0; what < 5; what++) due("about 0 " + what, x.about(0, what), first[what]);
        due("may be a name's", x.about(1, 3), h == 2 ? 1 : 0);
        int[] signs = {h, h + 1, h == 1 ? GAP : 7, 8, 10 + h};
        for (int k = 0; k < 5; k++) due("sign " + k, x.about(0, 10 + k), signs[k]);
        due("the last word's length", x.about(2, 0), 3 + h);
        due("its last sign", x.about(2, 12 + h), 16 + h);
        due("the case", x.about(h, 4), h);
        due("told of", x.telling(3, 0) * 10 + x.telling(3, 1), 11 * h);
        due("told on", x.telling(3, 2), 10 * h);
        due("fills of the one with a gap", x.fills(h - 1), 1);
        due("fills of the one without", x.fills(2 - h), NONE);
        due("the first ratio", x.sureRatio(0), 4 * h);
        due("spelled 0", x.spelled(0, h == 1 ? 1 : 4), h == 1 ? 7 : 14);
        due("spelled 1", x.spelled(1, h == 1 ? 4 : 0), h == 1 ? 4 : 19);
        due("spelled 2", x.spelled(2, h == 1 ? 4 : 1), h == 1 ? 8 : 10);
        due("spelled 3", x.spelled(3, 0), NONE);
        int[] days = {10 * h - 1, 10 * h, 11 * h - 1, 11 * h, 99, 100};
        int[] names = {0, 1, 1, 2, 2, 3};
        for (int i = 0; i < 6; i++) {
            x.view(days[i]);
            due("names by " + days[i], x.many(8), names[i]);
            due("words by " + days[i], x.many(7), i == 0 ? 0 : 3);
            due("sets by " + days[i], x.sets(), i == 0 ? 1331 : 121);
        }
        x.view(NONE);
        due("a plain row more", x.count(9, false, 1, 0, 0, 0), 2 * h + 1);
        due("the tape's end", x.end(h == 1 ? 5 : 3), NONE);
        due("the tape", x.name(), 3);
        due("its first", x.spelled(3, 0), h == 1 ? 8 : 22);
    }

    // The 512 calls, and refused calls.

    /** "An object is used for at most 512 calls": rows told anew to the last of them hold. */
    private static void t0_totalsToldAnewFor512Calls() {
        UnreadScript x = fresh();
        x.account();
        x.count(0, false, 6, 0, 0, 0);
        for (int call = 3; call < 511; call++) due("told anew", x.count(0, true, 0, 1 + call % 2, 0, 0), 1);
        due("call 511", x.count(0, true, 0, 1, 0, 0), 1);
        due("call 512", x.sureRatio(0), 6);
    }

    /** "no call may ever throw or fail to end", also behind the 512th */
    private static void t0_behindThe512thCall() {
        UnreadScript x = fresh();
        for (int i = 0; i < 300; i++) {
            x.word(i % 3 == 0, i % 22, (i + 1) % 21, i % 5 - 1, NONE, NONE);
            x.tell(i % 70, i % 5);
            x.account();
            x.count(i % 11, i % 2 == 0, i % 11, 1, 1, 1);
            x.feed(i, i, i, i, i);
            if (i % 7 == 0) x.name();
            if (i % 50 == 0) x.image(i % 4);
        }
        for (int i = 0; i < 3000; i++) x.count(0, true, i % 10, 0, 0, 0);
        x.sets();
        x.readings();
        x.breaker();
        due("words at most", x.many(0) <= 60, true);
        due("tellings at most", x.many(1) <= 150, true);
        due("names at most", x.many(3) <= 5, true);
    }

    /** A call that is refused, and a call that asks, leaves all as it was. */
    private static void t0_refusedCallsChangeNothing() {
        for (int v : FAR) {
            UnreadScript x = lived();
            String before = state(x);
            x.site(v);
            x.word(true, v, 1, 2, 3, 4);
            x.word(false, 1, 2, 3, 4, v);
            x.tell(v, 0);
            x.tell(0, v);
            x.day(v < 0 ? v : Math.max(v, 1000));
            x.view(v);
            x.count(v, true, 1, 1, 1, 1);
            x.count(0, true, v, 1, 1, 1);
            x.count(0, false, 1, 1, 1, v);
            x.end(v);
            x.image(v);
            x.again(v);
            x.one(v, 1);
            x.twins(1, v);
            x.fill(v, v);
            x.ratio(v, v);
            x.reading(v, v);
            x.value(v, v);
            x.one(1, 2);
            x.breaker();
            due("all as it was", state(x).equals(before), true);
            due("the tape as it was", x.end(3), NONE);
            due("the tape as it was", x.end(2), 2);
            due("pi", x.name(), 1);
            due("its value", x.spelled(1, 0), 14);
            due("the site as it was", x.about(find(x, 1), 1), 2);
        }
    }
}
