/** The promises of the document one by one: ordinary calls, the edges it names, and wrong calls. */
public final class PromiseTest {
    private static final int NONE = UnreadScript.NONE;
    private static int wrong = 0;
    private static int promise = 0;

    private static void due(String what, int got, int want) {
        if (got != want) {
            wrong++;
            System.out.println("promise " + promise + ": " + what + " answered " + got + ", due is " + want);
        }
    }

    private static void due(String what, boolean got, boolean want) {
        due(what, got ? 1 : 0, want ? 1 : 0);
    }

    public static void main(String[] args) {
        newObject();
        sites();
        words();
        tellsAndAbout();
        tellings();
        days();
        grid();
        breakers();
        uses();
        twinsAndOne();
        fillings();
        accounts();
        ratios();
        odds();
        tape();
        names();
        spellings();
        spelledNames();
        readings();
        manyReadings();
        views();
        images();
        imagesApart();
        wrongCalls();
        System.out.println(wrong == 0 ? "all promises hold" : wrong + " answers are not as due");
        if (wrong != 0) System.exit(1);
    }

    /** A word from its signs alone. */
    private static int find(UnreadScript x, boolean name, int... s) {
        int[] five = {NONE, NONE, NONE, NONE, NONE};
        System.arraycopy(s, 0, five, 0, s.length);
        return x.word(name, five[0], five[1], five[2], five[3], five[4]);
    }

    private static int put(UnreadScript x, String text) {
        int from = x.end(0);
        for (int at = 0; at < text.length(); at += 20) {
            int[] f = new int[5];
            for (int i = 0; i < 20; i++) {
                int c = at + i < text.length() ? text.charAt(at + i) : ' ';
                f[i / 4] = f[i / 4] << 8 | c;
            }
            from = x.feed(f[0], f[1], f[2], f[3], f[4]);
        }
        return x.end(text.length());
    }

    private static int name(UnreadScript x, String text) {
        put(x, text);
        return x.name();
    }

    private static int spelling(UnreadScript x, String text) {
        put(x, text);
        return x.spelling();
    }

    private static void newObject() {
        promise = 1;
        UnreadScript x = new UnreadScript();
        int[] want = {0, 0, 0, 0, 0, 0, NONE, 0, 0, 0};
        for (int what = 0; what < want.length; what++) due("many(" + what + ")", x.many(what), want[what]);
        for (int k = 0; k < 3; k++) due("again", x.again(k), false);
        due("fault(0)", x.fault(0), 0);
        due("fault(1)", x.fault(1), NONE);
        due("sets", x.sets(), 1331);
        due("readings", x.readings(), 0);
        due("breaker", x.breaker(), NONE);
        due("end(1)", x.end(1), NONE);
        due("end(0)", x.end(0), 0);
        find(x, false, 1);
        due("first site", x.about(0, 1), 0);
        due("first day", x.about(0, 2), 0);
        due("NONE", UnreadScript.NONE, -1);
    }

    private static void sites() {
        promise = 2;
        UnreadScript x = new UnreadScript();
        for (int s = 0; s < 4; s++) {
            due("site " + s, x.site(s), true);
            due("site -1", x.site(-1), false);
            due("site 4", x.site(4), false);
            due("its site", x.about(find(x, false, s), 1), s);
        }
    }

    private static void words() {
        promise = 3;
        UnreadScript x = new UnreadScript();
        due("first word", x.word(false, 0, 1, 2, 3, 19), 0);
        due("short word", x.word(true, 7, NONE, NONE, NONE, NONE), 1);
        due("no sign", x.word(false, NONE, NONE, NONE, NONE, NONE), NONE);
        due("sign behind none", x.word(false, 1, NONE, 2, NONE, NONE), NONE);
        due("none ahead", x.word(false, NONE, 1, NONE, NONE, NONE), NONE);
        due("sign 21", x.word(false, 1, 21, NONE, NONE, NONE), NONE);
        due("sign -2", x.word(false, 1, -2, NONE, NONE, NONE), NONE);
        due("two gaps", x.word(false, 20, 1, 20, NONE, NONE), NONE);
        due("one gap", x.word(false, 20, 1, NONE, NONE, NONE), 2);
        due("a gap alone", x.word(true, 20, NONE, NONE, NONE, NONE), 3);
        due("many tellings", x.many(1), 4);
        for (int i = 2; i < 12; i++) due("name word", x.word(true, i, NONE, NONE, NONE, NONE), i + 2);
        due("a 13th that may be a name's", x.word(true, 1, NONE, NONE, NONE, NONE), NONE);
        for (int i = 14; i < 60; i++) due("word", x.word(false, 1, NONE, NONE, NONE, NONE), i);
        due("a 61st word", x.word(false, 1, NONE, NONE, NONE, NONE), NONE);
        due("words", x.many(0), 60);
        UnreadScript y = new UnreadScript();
        find(y, false, 1);
        for (int i = 1; i < 150; i++) due("telling", y.tell(0, i % 4), i);
        due("word behind 150 tellings", find(y, false, 1), NONE);
        due("words behind 150 tellings", y.many(0), 1);
    }

    private static void tellsAndAbout() {
        promise = 4;
        UnreadScript x = new UnreadScript();
        due("no such word", x.tell(0, 0), NONE);
        x.site(2);
        x.day(7);
        find(x, true, 4, 20, 6);
        due("tell", x.tell(0, 3), 1);
        due("tell anew", x.tell(0, 1), 2);
        due("case 4", x.tell(0, 4), NONE);
        due("case -1", x.tell(0, -1), NONE);
        due("word -1", x.tell(-1, 0), NONE);
        due("word 1", x.tell(1, 0), NONE);
        for (int i = 3; i < 150; i++) due("telling", x.tell(0, 1), i);
        due("a 151st telling", x.tell(0, 1), NONE);
        promise = 5;
        int[][] want = {{0, 3}, {1, 2}, {2, 7}, {3, 1}, {4, 1}, {10, 4}, {11, 20}, {12, 6}, {13, -2}, {14, -2},
            {15, -2}, {5, -2}, {9, -2}, {-1, -2}, {Integer.MAX_VALUE, -2}, {Integer.MIN_VALUE, -2}};
        for (int[] w : want) due("about " + w[0], x.about(0, w[0]), w[1]);
        due("about word 1", x.about(1, 0), -2);
        due("about word -1", x.about(-1, 0), -2);
        x.view(6);
        due("case by a view ahead", x.about(0, 4), NONE);
        due("length by a view ahead", x.about(0, 0), 3);
        x.day(8);
        UnreadScript y = new UnreadScript();
        find(y, false, 1);
        due("case, none told", y.about(0, 4), NONE);
        due("no name's", y.about(0, 3), 0);
        y.tell(0, 2);
        y.day(3);
        y.tell(0, 0);
        due("case now", y.about(0, 4), 0);
        y.view(2);
        due("case by day 2", y.about(0, 4), 2);
    }

    private static void tellings() {
        promise = 6;
        UnreadScript x = new UnreadScript();
        find(x, false, 1);
        x.day(5);
        find(x, false, 2);
        x.tell(0, 3);
        x.view(0);
        int[][] want = {{0, NONE, 0}, {1, NONE, 5}, {0, 3, 5}};
        for (int k = 0; k < 3; k++)
            for (int what = 0; what < 3; what++) due("telling " + k + " " + what, x.telling(k, what), want[k][what]);
        due("telling 3", x.telling(3, 0), -2);
        due("telling -1", x.telling(-1, 0), -2);
        due("what 3", x.telling(0, 3), -2);
        due("what -1", x.telling(0, -1), -2);
    }

    private static void days() {
        promise = 7;
        UnreadScript x = new UnreadScript();
        due("day -1", x.day(-1), false);
        due("day 0", x.day(0), true);
        due("day 10", x.day(10), true);
        due("day 9", x.day(9), false);
        due("day 10 again", x.day(10), true);
        due("day 1000", x.day(1000), false);
        due("many(5)", x.many(5), 10);
        promise = 8;
        due("view 11", x.view(11), false);
        due("view -2", x.view(-2), false);
        due("many(6)", x.many(6), NONE);
        due("view 10", x.view(10), true);
        due("many(6)", x.many(6), 10);
        due("view 0", x.view(0), true);
        due("day 999", x.day(999), true);
        due("the view stays", x.many(6), 0);
        due("view 12 fails", x.view(1000), false);
        due("the view stays", x.many(6), 0);
        due("view NOW", x.view(NONE), true);
        due("many(6)", x.many(6), NONE);
    }

    private static void grid() {
        promise = 9;
        UnreadScript x = new UnreadScript();
        due("row of an unused sign", x.row(19), 19);
        due("row of 20", x.row(20), NONE);
        due("row of -1", x.row(-1), NONE);
        find(x, false, 1, 2, 9);
        find(x, false, 1, 2, 7);
        due("rows joined", x.row(9), 7);
        due("rows joined", x.row(7), 7);
        find(x, false, 5, 4, 3, 7);
        find(x, false, 5, 4, 3, 6);
        due("it goes on", x.row(9), 6);
        find(x, false, 8, 11);
        find(x, false, 8, 12);
        due("length 2 does not join", x.row(12), 12);
        find(x, false, 1, 20, 13);
        find(x, false, 1, 20, 14);
        due("a gap does not join", x.row(14), 14);
        find(x, false, 1, 3, 15);
        due("two places apart", x.row(15), 15);
        find(x, false, 1, 2, 9, 16);
        due("other lengths", x.row(16), 16);
        promise = 10;
        due("column", x.column(9), 9);
        due("column of 20", x.column(20), NONE);
        due("column of -1", x.column(-1), NONE);
        x.tell(4, 2);
        x.tell(6, 2);
        due("columns joined", x.column(13), 11);
        due("columns joined", x.column(11), 11);
        x.tell(9, 1);
        due("another case", x.column(16), 16);
        x.tell(9, 2);
        due("told anew", x.column(16), 11);
        x.tell(6, 0);
        due("told anew, it leaves", x.column(13), 13);
        int gap = find(x, false, 1, 20);
        x.tell(gap, 2);
        due("a last gap joins nothing", x.column(16), 11);
    }

    private static void breakers() {
        promise = 11;
        UnreadScript x = new UnreadScript();
        find(x, false, 1, 2, 3);
        find(x, false, 1, 2, 4);
        x.tell(0, 1);
        due("not broken", x.breaker(), NONE);
        due("breaking telling", x.tell(1, 1), 3);
        due("broken", x.breaker(), 3);
        x.tell(1, 1);
        due("the first one", x.breaker(), 3);
        x.tell(1, 0);
        due("mended", x.breaker(), NONE);
        x.tell(1, 1);
        due("broken anew: the first by those up to it", x.breaker(), 3);
        UnreadScript y = new UnreadScript();
        find(y, false, 3);
        find(y, false, 4);
        y.tell(0, 0);
        y.tell(1, 0);
        find(y, false, 5, 5, 3);
        y.day(4);
        due("not yet", y.breaker(), NONE);
        find(y, false, 5, 5, 4);
        due("broken by a word", y.breaker(), 5);
        y.view(3);
        due("not by a view ahead", y.breaker(), NONE);
        int[][] pairs = {{0, 1}, {18, 19}, {0, 19}};
        for (int[] p : pairs) {
            UnreadScript z = new UnreadScript();
            find(z, false, 2, 2, p[0]);
            find(z, false, 2, 2, p[1]);
            z.tell(0, 3);
            z.tell(1, 3);
            due("broken by " + p[0] + " and " + p[1], z.breaker(), 3);
            due("row", z.row(p[1]), p[0]);
            due("column", z.column(p[1]), p[0]);
        }
    }

    private static void uses() {
        promise = 12;
        UnreadScript x = new UnreadScript();
        find(x, false, 3, 3, 5);
        find(x, false, 3);
        find(x, false, 5, 20, 7);
        find(x, false, 20, 5);
        int[][] want = {{3, 3, 2, 1}, {5, 3, 1, 2}, {7, 1, 0, 1}, {8, 0, 0, 0}, {20, NONE, NONE, NONE}, {-1, NONE, NONE, NONE}};
        for (int[] w : want)
            for (int what = 0; what < 3; what++) due("use " + w[0] + " " + what, x.use(w[0], what), w[1 + what]);
        due("use what 3", x.use(3, 3), NONE);
        due("use what -1", x.use(3, -1), NONE);
        promise = 13;
        int[] order = {3, 5, 7, NONE};
        for (int k = 0; k < order.length; k++) due("initial " + k, x.initial(k), order[k]);
        due("initial -1", x.initial(-1), NONE);
        find(x, false, 9);
        find(x, false, 2);
        find(x, false, 1, 1);
        find(x, false, 8, 4);
        find(x, false, 8, 4);
        // 8: 2/2; 2 and 9: 1/1; 3: 2/3; 1: 1/2; 5: 1/3; 4: 0/2; 7: 0/1
        int[] longer = {8, 2, 9, 3, 1, 5, 4, 7, NONE};
        for (int k = 0; k < longer.length; k++) due("initial " + k, x.initial(k), longer[k]);
    }

    private static void twinsAndOne() {
        promise = 14;
        UnreadScript x = new UnreadScript();
        find(x, false, 1, 2, 3);
        find(x, false, 1, 4, 3);
        find(x, false, 1, 4, 3);
        find(x, false, 4);
        find(x, false, 2);
        find(x, false, 2, 2);
        find(x, false, 4, 4);
        find(x, false, 1, 20, 2);
        find(x, false, 1, 20, 4);
        due("twins", x.twins(2, 4), 3);
        due("twins", x.twins(4, 2), 3);
        due("none", x.twins(1, 2), 0);
        due("they are one", x.twins(2, 2), NONE);
        due("no such two", x.twins(2, 20), NONE);
        due("no such two", x.twins(-1, 2), NONE);
        promise = 15;
        due("one site has both", x.one(2, 4), false);
        UnreadScript y = new UnreadScript();
        find(y, false, 1, 2, 3);
        y.site(1);
        find(y, false, 7, 7, 9);
        due("may be one", y.one(2, 7), true);
        due("may be one", y.one(7, 2), true);
        due("one is not used", y.one(2, 5), false);
        due("they are one", y.one(2, 2), false);
        due("no such", y.one(2, 20), false);
        due("no such", y.one(-1, 2), false);
        find(y, false, 7, 2, 3);
        due("a site has both now", y.one(2, 7), false);
        // if 1 and 7 were one, the words 1 2 3 and 7 2 5 would join 3 and 5, which are of one case
        UnreadScript z = new UnreadScript();
        find(z, false, 1, 2, 3);
        z.site(1);
        find(z, false, 7, 2, 5);
        due("not broken", z.one(1, 7), true);
        z.tell(0, 0);
        z.tell(1, 0);
        due("it would be broken", z.one(1, 7), false);
        due("the grid as it is", z.breaker(), NONE);
        due("one sign is never unlike itself", z.one(3, 5), true);
    }

    private static void fillings() {
        promise = 16;
        UnreadScript x = new UnreadScript();
        find(x, false, 1, 20, 3);
        due("no fills yet", x.fills(0), 0);
        find(x, false, 1, 9, 3);
        find(x, false, 1, 4, 7);
        find(x, false, 1, 9, 8);
        find(x, false, 2, 5, 3);
        find(x, false, 1, 20, 8);
        find(x, false, 1, 6);
        due("fills", x.fills(0), 2);
        due("no gap", x.fills(1), NONE);
        due("no such word", x.fills(7), NONE);
        due("no such word", x.fills(-1), NONE);
        int last = find(x, false, 1, 9, 20);
        due("a last gap", x.fills(last), 2);
        int two = find(x, false, 20, 6);
        due("length 2", x.fills(two), 1);
        find(x, false, 13, 5);
        due("length 2, another last sign", x.fills(two), 1);
        promise = 17;
        due("fill 0", x.fill(0, 0), 4);
        due("fill 1", x.fill(0, 1), 9);
        due("fill 2", x.fill(0, 2), NONE);
        due("fill -1", x.fill(0, -1), NONE);
        due("fill of a last gap", x.fill(last, 0), 3);
        due("fill of a last gap", x.fill(last, 1), 8);
        due("fill of two", x.fill(two, 0), 1);
        due("fill of no gap", x.fill(1, 0), NONE);
        due("fill of no word", x.fill(99, 0), NONE);
        x.day(1);
        find(x, false, 1, 11, 3);
        int late = find(x, false, 20);
        due("fills now", x.fills(0), 3);
        x.view(0);
        due("fills by the view", x.fills(0), 2);
        due("a word that the view has not", x.fills(late), NONE);
        due("a word that the view has not", x.fill(late, 0), NONE);
    }

    private static void accounts() {
        promise = 18;
        UnreadScript x = new UnreadScript();
        due("count without accounts", x.count(0, false, 1, 1, 1, 1), NONE);
        for (int i = 0; i < 10; i++) due("account", x.account(), i);
        due("an 11th", x.account(), NONE);
        due("accounts", x.many(2), 10);
        promise = 19;
        due("a total first", x.count(3, true, 9, 9, 9, 9), 0);
        for (int i = 1; i <= 6; i++) due("plain row", x.count(3, false, 0, 0, 0, 0), i);
        due("a 7th", x.count(3, false, 0, 0, 0, 0), NONE);
        due("a total told anew", x.count(3, true, 0, 0, 0, 0), 6);
        due("count 10", x.count(2, false, 10, 0, 0, 0), NONE);
        due("count -1", x.count(2, false, 0, -1, 0, 0), NONE);
        due("count 10", x.count(2, true, 0, 0, 10, 0), NONE);
        due("count -1", x.count(2, true, 0, 0, 0, -1), NONE);
        due("account 10", x.count(10, false, 0, 0, 0, 0), NONE);
        due("account -1", x.count(-1, false, 0, 0, 0, 0), NONE);
        due("nothing came", x.count(2, false, 0, 0, 0, 0), 1);
    }

    private static void ratios() {
        promise = 20;
        UnreadScript x = new UnreadScript();
        x.account();
        x.count(0, false, 5, 0, 0, 0);
        due("without a total all agree", x.sets(), 1331);
        x.count(0, true, 0, 1, 0, 0);
        due("the first ratio is 5", x.sets(), 121);
        x.account();
        x.count(1, true, 0, 0, 1, 0);
        due("without a plain row", x.sets(), 121);
        x.count(1, false, 5, 2, 0, 0);
        due("the second is 3", x.sets(), 11);
        promise = 21;
        for (int k = 0; k < 11; k++) {
            due("ratio 0", x.ratio(k, 0), 5);
            due("ratio 1", x.ratio(k, 1), 3);
            due("ratio 2", x.ratio(k, 2), 2 + k);
        }
        due("set 11", x.ratio(11, 0), NONE);
        due("set -1", x.ratio(-1, 0), NONE);
        due("ratio 3", x.ratio(0, 3), NONE);
        due("ratio -1", x.ratio(0, -1), NONE);
        UnreadScript all = new UnreadScript();
        due("in order", all.ratio(0, 0) * 10000 + all.ratio(0, 1) * 100 + all.ratio(0, 2), 20202);
        due("in order", all.ratio(11, 0) * 10000 + all.ratio(11, 1) * 100 + all.ratio(11, 2), 20302);
        due("in order", all.ratio(1330, 0) * 10000 + all.ratio(1330, 1) * 100 + all.ratio(1330, 2), 121212);
        promise = 22;
        due("sure 0", x.sureRatio(0), 5);
        due("sure 1", x.sureRatio(1), 3);
        due("sure 2", x.sureRatio(2), NONE);
        due("sure 3", x.sureRatio(3), NONE);
        due("sure -1", x.sureRatio(-1), NONE);
        x.account();
        x.count(2, false, 0, 0, 6, 0);
        x.count(2, false, 0, 0, 6, 0);
        x.count(2, true, 0, 0, 0, 1);
        due("sure 2", x.sureRatio(2), 12);
        due("one set", x.sets(), 1);
        x.day(3);
        x.count(2, true, 0, 0, 0, 2);
        due("a total told anew", x.sureRatio(2), 6);
        x.view(2);
        due("the old total by the view", x.sureRatio(2), 12);
        x.view(NONE);
        x.count(2, true, 0, 0, 0, 0);
        due("no sets", x.sets(), 0);
        due("sure of none", x.sureRatio(0), NONE);
        due("ratio of none", x.ratio(0, 0), NONE);
    }

    private static void odds() {
        promise = 23;
        UnreadScript x = new UnreadScript();
        due("with sets there is no odd one", x.odd(0), NONE);
        for (int i = 0; i < 4; i++) x.account();
        x.count(0, false, 5, 0, 0, 0);
        x.count(0, true, 0, 1, 0, 0);
        due("not odd", x.odd(0), NONE);
        x.count(2, false, 6, 0, 0, 0);
        x.count(2, true, 0, 1, 0, 0);
        due("no sets", x.sets(), 0);
        due("either is odd", x.odd(0), 0);
        due("either is odd", x.odd(1), 2);
        due("no third", x.odd(2), NONE);
        due("odd -1", x.odd(-1), NONE);
        x.count(3, false, 0, 6, 0, 0);
        x.count(3, true, 6, 5, 0, 0);
        due("two say 6", x.odd(0), 0);
        due("no second", x.odd(1), NONE);
        x.count(1, false, 7, 0, 0, 0);
        x.count(1, true, 0, 1, 0, 0);
        due("leaving one out does not help", x.odd(0), NONE);
    }

    private static void tape() {
        promise = 24;
        UnreadScript x = new UnreadScript();
        due("feed", x.feed(0x6b610000, 0, 0, 0, 0), 20);
        for (int n = 40; n <= 400; n += 20) due("feed", x.feed(0, 0, 0, 0, 0), n);
        due("a feed too many", x.feed(0, 0, 0, 0, 0), NONE);
        promise = 25;
        due("end 401", x.end(401), NONE);
        due("end 400", x.end(400), 400);
        due("end -1", x.end(-1), NONE);
        due("end 381", x.end(381), 381);
        due("feed beyond 400", x.feed(0, 0, 0, 0, 0), NONE);
        due("end 2", x.end(2), 2);
        due("end 3", x.end(3), NONE);
        due("ka", x.name(), 0);
        due("ka", x.spelled(0, 0), 4);
        due("taken", x.end(1), NONE);
        x.feed(0x61656b6f, 0x61656b6f, 0x61000000, 0, 0);
        x.end(9);
        due("highest byte first", x.name(), 1);
        UnreadScript y = new UnreadScript();
        y.feed(0x6b6f7461, 0, 0, 0, 0);
        y.end(4);
        y.name();
        due("ko", y.spelled(0, 0), 7);
        due("ta", y.spelled(0, 1), 8);
    }

    private static void nameFault(UnreadScript x, String text, int fault, int place) {
        due("name '" + text + "'", name(x, text), NONE);
        due("fault of '" + text + "'", x.fault(0), fault);
        due("place in '" + text + "'", x.fault(1), place);
        due("the tape is taken", x.end(1), NONE);
    }

    private static void names() {
        promise = 26;
        UnreadScript x = new UnreadScript();
        nameFault(x, "", 1, 0);
        nameFault(x, "kx", 1, 1);
        nameFault(x, "ka ", 1, 2);
        nameFault(x, "K", 1, 0);
        nameFault(x, "kakakakakak", 2, 10);
        nameFault(x, "kakakakakakx", 1, 11);
        nameFault(x, "a" + (char) 225, 1, 1);
        due("no name yet", x.many(3), 0);
        due("ten letters", name(x, "kakakakaka"), 0);
        due("no fault", x.fault(0), 0);
        due("no place", x.fault(1), NONE);
        for (int i = 1; i < 5; i++) due("name", name(x, "ktpsnraeio".substring(i, i + 1)), i);
        nameFault(new UnreadScript(), "b", 1, 0);
        spelling(x, "x");
        due("a fault", x.fault(0), 1);
        due("a sixth", name(x, "xx"), -2);
        due("no text is read", x.fault(0), 0);
        due("no text is read", x.fault(1), NONE);
        due("the tape is taken", x.end(1), NONE);
        due("names", x.many(3), 5);
        promise = 28;
        due("fault what 2", x.fault(2), NONE);
        due("fault what -1", x.fault(-1), NONE);
    }

    private static void textFault(String text, int fault, int place) {
        UnreadScript x = new UnreadScript();
        spelling(x, "k end:drop;");
        due("spelling '" + text + "'", spelling(x, text), NONE);
        due("fault of '" + text + "'", x.fault(0), fault);
        due("place in '" + text + "'", x.fault(1), place);
        due("the tape is taken", x.end(1), NONE);
        due("the old spelling stays", x.many(4), 1);
    }

    private static void goodText(String text, int lines) {
        UnreadScript x = new UnreadScript();
        spelling(x, "kk");
        due("spelling '" + text + "'", spelling(x, text), lines);
        due("no fault of '" + text + "'", x.fault(0), 0);
        due("no place in '" + text + "'", x.fault(1), NONE);
        due("lines of '" + text + "'", x.many(4), lines);
        due("the tape is taken", x.end(1), NONE);
    }

    private static void spellings() {
        promise = 27;
        goodText("", 0);
        goodText(" \n ", 0);
        goodText("k open:drop;", 1);
        goodText("k open:drop;t cluster:echo;p cluster:last;s end:last;n end:as r;r open:as k;", 6);
        goodText("  k\nopen : as\nt ;\n", 1);
        goodText("k end:drop;".repeat(16), 16);
        textFault("k", 1, 1);
        textFault("k open", 1, 6);
        textFault("k open  ", 1, 8);
        textFault("k open:drop", 1, 11);
        textFault("k open:as k", 1, 11);
        textFault("x open:drop;", 1, 0);
        textFault("a open:drop;", 1, 0);
        textFault("kk open:drop;", 1, 0);
        textFault("kopen:drop;", 1, 0);
        textFault("k opens:drop;", 1, 2);
        textFault("k openz:drop;", 1, 2);
        textFault("k xpen:drop;", 1, 2);
        textFault("k open:xrop;", 1, 7);
        textFault("k open:xs t;", 1, 7);
        textFault("k ope$n:drop;", 1, 2);
        textFault("k open$:drop;", 1, 6);
        textFault("k open;drop;", 1, 6);
        textFault("k open:drop:", 1, 11);
        textFault("k open::drop;", 1, 7);
        textFault("k open:ask;", 1, 7);
        textFault("k open:as a;", 1, 10);
        textFault("k open:as tt;", 1, 10);
        textFault("k open:as;", 1, 9);
        textFault("k open:drop t;", 1, 12);
        textFault("k open:drop;;", 1, 12);
        textFault("K open:drop;", 1, 0);
        textFault("k\topen:drop;", 1, 1);
        textFault("k open:drop;" + (char) 0, 1, 12);
        textFault("k open:drop;" + (char) 235, 1, 12);
        textFault("k open:echo;", 2, 7);
        textFault("k open:last;", 2, 7);
        textFault("k end: echo;", 2, 7);
        textFault("k end:drop; t open:last; s end:echo;", 2, 19);
        textFault("k open:echo;x", 1, 12);
        textFault("k end:drop;".repeat(17), 3, 176);
        textFault("k end:drop;".repeat(16) + " k end:echo;", 3, 177);
        textFault("k end:drop;".repeat(15) + "k end:echo;".repeat(2), 2, 171);
        textFault("k end:drop;".repeat(17) + "k", 1, 188);
        UnreadScript x = new UnreadScript();
        put(x, "kkkkk");
        x.end(1);
        due("bytes behind the end are none", x.spelling(), NONE);
        due("the end's place", x.fault(1), 1);
        put(x, "k open:drop;kkk");
        x.end(12);
        due("bytes behind the end are none", x.spelling(), 1);
        put(x, "kaka");
        x.end(2);
        x.name();
        due("bytes behind the end are none", x.spelled(0, 1), NONE);
    }

    private static void spells(String lines, String text, int... values) {
        UnreadScript x = new UnreadScript();
        spelling(x, lines);
        due("name " + text, name(x, text), 0);
        for (int k = 0; k <= values.length; k++)
            due(lines + " " + text + " value " + k, x.spelled(0, k), k < values.length ? values[k] : NONE);
        due("value -1", x.spelled(0, -1), NONE);
    }

    private static void spelledNames() {
        promise = 29;
        int a = 0;
        int e = 1;
        int i = 2;
        int o = 3;
        int k = 4;
        int t = 8;
        int p = 12;
        int s = 16;
        int n = 20;
        int r = 24;
        spells("", "ae", a, e);
        spells("", "kateposi", k + a, t + e, p + o, s + i);
        spells("", "nira", n + i, r + a);
        spells("", "iaka", i, a, k + a);
        spells("k open:as t;t open:drop;", "kato", t + a, o);
        spells("", "parto", p + a, r + o, t + o);
        spells("", "sktri", s + i, k + i, t + i, r + i);
        spells("r cluster:echo;", "parto", p + a, r + o, t + o);
        spells("r cluster:as n;", "parto", p + a, n + o, t + o);
        spells("r cluster:last;", "parto", p + a, r + a, t + o);
        spells("r cluster:drop;", "parto", p + a, t + o);
        spells("r cluster:last;", "rto", t + o);
        spells("", "arkt", a);
        spells("r cluster:as k;", "arkt", a);
        spells("r cluster:last;k cluster:last;", "arkt", a, r + a, k + a);
        spells("", "tas", t + a);
        spells("s end:drop;", "tas", t + a);
        spells("s end:last;", "tas", t + a, s + a);
        spells("s end:as r;", "tas", t + a, r + a);
        spells("r end:last;n cluster:last;", "anir", a, n + i, r + i);
        spells("k end:last;", "k");
        spells("", "k");
        spells("", "ks");
        spells("s end:last;k open:drop;", "s");
        spells("k open:drop;k open:as t;", "ka", a);
        spells("k cluster:drop;k open:as t;", "kka", t + a);
        spells("", "aeioa", a, e, i, o, a);
        spells("", "aeioae");
        spells("k open:as t;t open:drop;n cluster:as r;r end:as s;", "kantir", t + a, r + i, i, s + i);
        spells("t cluster:echo;", "atak", a, t + a);
        UnreadScript x = new UnreadScript();
        due("no name", x.spelled(0, 0), NONE);
        due("no name", x.spelled(-1, 0), NONE);
        x.day(2);
        name(x, "ka");
        due("spelled", x.spelled(0, 0), 4);
        due("no second name", x.spelled(1, 0), NONE);
        spelling(x, "k open:as r;");
        due("spelled by the new lines", x.spelled(0, 0), 24);
        spelling(x, "k open:drop");
        due("a fault leaves the lines", x.spelled(0, 0), 24);
        spelling(x, "");
        due("no lines", x.spelled(0, 0), 4);
        x.view(1);
        due("no name by the view", x.spelled(0, 0), NONE);
    }

    private static void readings() {
        promise = 30;
        UnreadScript x = new UnreadScript();
        find(x, true, 1, 2);
        find(x, true, 3, 2);
        find(x, false, 5, 6);
        find(x, true, 4, 4);
        find(x, true, 20, 9);
        due("no name", x.readings(), 0);
        name(x, "kt");
        due("no name is spelled", x.readings(), 0);
        due("kata", name(x, "kata"), 1);
        // 1 2, 3 2 and ? 9 fit; 4 4 would have two values
        due("readings of one name", x.readings(), 3);
        due("pata", name(x, "pata"), 2);
        // kata, pata: (0,1) (0,4) (1,0) (1,4) (4,0) (4,1); with word 4, sign 9 and sign 2 would both be ta
        due("readings of two", x.readings(), 2);
        promise = 31;
        due("reading 0", x.reading(0, 1), 0);
        due("reading 0", x.reading(0, 2), 1);
        due("reading 1", x.reading(1, 1), 1);
        due("reading 1", x.reading(1, 2), 0);
        due("not spelled", x.reading(0, 0), NONE);
        due("no such name", x.reading(0, 3), NONE);
        due("no such name", x.reading(0, -1), NONE);
        due("no such reading", x.reading(2, 1), NONE);
        due("no such reading", x.reading(-1, 1), NONE);
        promise = 32;
        due("value of 1", x.value(0, 1), 4);
        due("value of 1", x.value(1, 1), 12);
        due("value of 2", x.value(1, 2), 8);
        due("value of 3", x.value(0, 3), 12);
        due("value of 9", x.value(0, 9), NONE);
        due("value of 20", x.value(0, 20), NONE);
        due("value of -1", x.value(0, -1), NONE);
        due("value in 2", x.value(2, 1), NONE);
        due("value in -1", x.value(-1, 1), NONE);
        promise = 33;
        due("sure of 2", x.sure(2), 8);
        due("sure of 1", x.sure(1), NONE);
        due("sure of 9", x.sure(9), NONE);
        due("sure of 20", x.sure(20), NONE);
        due("sure of -1", x.sure(-1), NONE);
        promise = 34;
        due("next word", x.next(0), 0);
        due("next left", x.next(1), 1);
        due("next what 2", x.next(2), NONE);
        due("next what -1", x.next(-1), NONE);
        gridReadings();
    }

    private static void gridReadings() {
        promise = 30;
        UnreadScript x = new UnreadScript();
        find(x, true, 1);
        find(x, true, 2);
        find(x, true, 3);
        name(x, "ka");
        name(x, "ke");
        due("all pairs", x.readings(), 6);
        find(x, false, 9, 9, 1);
        find(x, false, 9, 9, 2);
        due("1 and 2 have one consonant: nothing new", x.readings(), 6);
        due("to", name(x, "to"), 2);
        // 3 must be to now, as 1 and 2 have one consonant
        due("one consonant", x.readings(), 2);
        due("reading 0 to", x.reading(0, 2), 2);
        due("sure", x.sure(3), 11);
        due("not sure", x.sure(1), NONE);
        x.day(1);
        x.tell(0, 0);
        x.tell(2, 0);
        due("1 and 3 have one vowel", x.readings(), 0);
        due("no next", x.next(0), NONE);
        due("no next", x.next(1), NONE);
        due("no sure", x.sure(3), NONE);
        x.tell(2, 1);
        due("told anew", x.readings(), 2);
        x.tell(1, 0);
        due("broken", x.breaker() != NONE, true);
        due("none if broken", x.readings(), 0);
        x.view(0);
        due("not by a view ahead", x.readings(), 2);
        columnReadings();
        UnreadScript y = new UnreadScript();
        find(y, true, 1, 2, 1);
        find(y, true, 1, 2, 3);
        name(y, "kataka");
        due("a sign has one value, a value one sign", y.readings(), 1);
        due("reading", y.reading(0, 0), 0);
        find(y, true, 1, 20, 1);
        due("a gap may be any", y.readings(), 2);
        due("reading", y.reading(1, 0), 2);
        due("sure", y.sure(1), 4);
        due("not in all", y.sure(2), NONE);
        due("next: the words 0 and 2 leave 1", y.next(0), 0);
        due("left", y.next(1), 1);
    }

    private static void columnReadings() {
        String[][] pairs = {{"ka", "ta"}, {"ke", "te"}, {"si", "i"}, {"o", "ro"}, {"ke", "ta"}, {"ka", "to"}, {"i", "ko"}};
        for (int i = 0; i < pairs.length; i++) {
            UnreadScript x = new UnreadScript();
            find(x, true, 6);
            find(x, true, 8);
            x.tell(0, 2);
            x.tell(1, 2);
            name(x, pairs[i][0]);
            name(x, pairs[i][1]);
            due("one vowel: " + pairs[i][0] + " " + pairs[i][1], x.readings(), i < 4 ? 2 : 0);
            UnreadScript y = new UnreadScript();
            find(y, true, 6);
            find(y, true, 8);
            find(y, false, 1, 1, 6);
            find(y, false, 1, 1, 8);
            String[] rowPairs = {"kake", "tito", "eo", "rari", "kata", "ona", "neke"};
            String both = rowPairs[i];
            int half = both.length() == 2 ? 1 : both.length() - 2;
            name(y, both.substring(0, half));
            name(y, both.substring(half));
            due("one consonant: " + both, y.readings(), i < 4 ? 2 : 0);
        }
    }

    private static void manyReadings() {
        promise = 30;
        UnreadScript x = new UnreadScript();
        for (int i = 0; i < 12; i++) find(x, true, i);
        String[] names = {"a", "e", "i", "o", "ka"};
        for (String n : names) name(x, n);
        due("12 * 11 * 10 * 9 * 8", x.readings(), 95040);
        due("the last one", x.reading(95039, 0), 11);
        due("the last one", x.reading(95039, 4), 7);
        due("the last one", x.value(95039, 7), 4);
        due("the first one", x.reading(0, 4), 4);
        due("behind the first", x.reading(1, 4), 5);
        due("none behind the last", x.reading(95040, 0), NONE);
        due("next", x.next(0), 0);
        // none's: 11 * 10 * 9 * 8 * 7
        due("left", x.next(1), 55440);
        find(x, false, 9, 9, 0);
        find(x, false, 9, 9, 1);
        due("signs 0 and 1 have one consonant", x.readings() < 95040, true);
        UnreadScript y = new UnreadScript();
        for (int i = 0; i < 12; i++) find(y, true, 20);
        for (String n : names) name(y, n);
        due("gaps", y.readings(), 95040);
        due("no value", y.value(5, 0), NONE);
        due("nothing sure", y.sure(0), NONE);
        fullObject();
    }

    /** Every row of the object as long as it may be. */
    private static void fullObject() {
        UnreadScript x = new UnreadScript();
        for (int i = 0; i < 48; i++) find(x, false, 19, 18, 17, 16, i % 12);
        for (int i = 0; i < 12; i++) due("word", find(x, true, i, i, i, i, i), 48 + i);
        for (int i = 60; i < 150; i++) due("telling", x.tell(i % 60, i % 4), i);
        due("broken", x.breaker() != NONE, true);
        UnreadScript y = new UnreadScript();
        for (int i = 0; i < 48; i++) find(y, false, 19, 18, 17, 16, 15);
        for (int i = 0; i < 12; i++) find(y, true, i, i, i, i, i);
        String[] names = {"ka", "te", "pi", "so", "na"};
        for (int i = 0; i < 5; i++) due("a name of ten letters", name(y, names[i].repeat(5)), i);
        due("readings", y.readings(), 95040);
        for (int i = 0; i < 5; i++) {
            due("the last reading", y.reading(95039, i), 59 - i);
            due("its value", y.value(95039, 11 - i), y.spelled(i, 4));
            due("no sixth value", y.spelled(i, 5), NONE);
        }
        due("no sixth name", y.reading(0, 5), NONE);
        due("no sixth name", y.spelled(5, 0), NONE);
        due("signs that are used", y.many(9), 17);
    }

    private static void views() {
        promise = 35;
        UnreadScript x = new UnreadScript();
        find(x, true, 1, 2, 3);
        x.day(2);
        find(x, true, 1, 2, 20);
        find(x, true, 1, 2, 5);
        x.tell(0, 0);
        x.account();
        name(x, "kata");
        x.day(4);
        name(x, "pi");
        spelling(x, "k open:drop;t open:drop;");
        x.view(2);
        int[] want = {3, 4, 1, 2, 2, 4, 2, 3, 1, 4};
        for (int what = 0; what < want.length; what++) due("many " + what, x.many(what), want[what]);
        due("many 10", x.many(10), -2);
        due("many -1", x.many(-1), -2);
        due("row", x.row(5), 3);
        x.view(1);
        due("words by the view", x.many(7), 1);
        due("names by the view", x.many(8), 0);
        due("signs by the view", x.many(9), 3);
        due("row by the view", x.row(5), 5);
        due("use by the view", x.use(1, 0), 1);
        due("twins by the view", x.twins(3, 5), 0);
        due("initial by the view", x.initial(3), NONE);
        due("the spelling has no day", x.many(4), 2);
        x.view(NONE);
        due("twins", x.twins(3, 5), 1);
        due("names now", x.many(8), 2);
    }

    private static void images() {
        promise = 36;
        UnreadScript x = new UnreadScript();
        due("image 3", x.image(3), false);
        due("image -1", x.image(-1), false);
        x.site(1);
        x.day(3);
        find(x, true, 1, 2, 3);
        x.tell(0, 2);
        x.account();
        x.count(0, false, 5, 0, 0, 0);
        x.count(0, true, 0, 1, 0, 0);
        name(x, "kata");
        spelling(x, "k open:as t;");
        spelling(x, "zz");
        x.view(1);
        x.feed(0x6b610000, 0, 0, 0, 0);
        x.end(2);
        due("image 0", x.image(0), true);
        promise = 37;
        due("no image 1", x.again(1), false);
        due("image 3", x.again(3), false);
        due("image -1", x.again(-1), false);
        x.site(2);
        x.day(5);
        x.view(NONE);
        find(x, true, 1, 2, 4);
        x.tell(0, 1);
        x.account();
        x.count(0, true, 0, 0, 0, 0);
        name(x, "pi");
        spelling(x, "");
        due("image 1", x.image(1), true);
        due("again 0", x.again(0), true);
        int[] want = {1, 2, 1, 1, 1, 3, 1, 0, 0, 0};
        for (int what = 0; what < want.length; what++) due("many " + what, x.many(what), want[what]);
        due("the fault", x.fault(0), 1);
        due("its place", x.fault(1), 0);
        due("the tape", x.end(3), NONE);
        due("the tape", x.end(2), 2);
        due("the tape as a name", x.name(), 1);
        x.view(NONE);
        due("ka as ta", x.spelled(1, 0), 8);
        due("the case", x.about(0, 4), 2);
        due("sets", x.sets(), 121);
        due("the site", x.about(find(x, false, 7), 1), 1);
        due("names that may come", x.many(0), 2);
        due("again 1", x.again(1), true);
        due("the view", x.many(6), NONE);
        due("the day", x.many(5), 5);
        due("words", x.many(0), 2);
        due("row", x.row(4), 3);
        due("sets", x.sets(), 0);
        due("the site", x.about(find(x, false, 7), 1), 2);
        due("again 0 is not spoilt", x.again(0), true);
        due("words", x.many(0), 1);
        due("the day may go on", x.day(3), true);
    }

    /** Two histories that part at image 0 and write over the same places. */
    private static void imagesApart() {
        promise = 37;
        UnreadScript x = new UnreadScript();
        x.image(0);
        history(x, 1, "a", "k end:drop;", "ka", 3);
        x.image(1);
        x.again(0);
        history(x, 2, "kekiko", "k open:as t;t end:last;", "topi", 9);
        x.image(2);
        for (int round = 0; round < 2; round++) {
            x.again(1);
            isHistory(x, 1, 1, 3, "ka");
            due("first value", x.spelled(0, 0), 0);
            due("the first ratio", x.sureRatio(0), 4);
            due("lines", x.many(4), 1);
            x.again(2);
            isHistory(x, 2, 3, 9, "topi");
            due("first value", x.spelled(0, 0), 9);
            due("the first ratio", x.sureRatio(0), 5);
            due("lines", x.many(4), 2);
            x.again(0);
            due("words", x.many(0), 0);
        }
    }

    private static void history(UnreadScript x, int day, String name, String lines, String tape, int sign) {
        x.site(day);
        x.day(day);
        for (int i = 0; i < day; i++) find(x, i == 0, sign, sign + 1, sign + 2);
        x.tell(0, day);
        x.account();
        x.count(0, false, 3 + day, 0, 0, 0);
        x.count(0, true, 0, 1, 0, 0);
        name(x, name);
        spelling(x, lines);
        put(x, tape);
    }

    private static void isHistory(UnreadScript x, int day, int values, int sign, String tape) {
        due("day", x.many(5), day);
        due("words", x.many(0), day);
        due("site", x.about(0, 1), day);
        due("found on", x.about(0, 2), day);
        due("case", x.about(0, 4), day);
        due("told on", x.telling(day, 2), day);
        due("sign", x.about(0, 10), sign);
        due("may be a name's", x.about(0, 3), 1);
        due("all values", x.spelled(0, values - 1) != NONE && x.spelled(0, values) == NONE, true);
        x.view(day - 1);
        due("not seen the day before", x.many(8), 0);
        due("rows not seen the day before", x.sets(), 1331);
        x.view(NONE);
        due("the tape's end", x.end(tape.length() + 1), NONE);
        due("the tape", x.name(), 1);
        due("the tape's first letter", x.spelled(1, 0), tape.equals("ka") ? 4 : 11);
    }

    /** No call fails, whatever it is given, and none of these changes anything that is counted. */
    private static void wrongCalls() {
        promise = 3;
        int[] odd = {Integer.MIN_VALUE, -3, -2, 21, 60, 150, 1000, Integer.MAX_VALUE};
        UnreadScript x = new UnreadScript();
        find(x, true, 20);
        name(x, "a");
        for (int v : odd) {
            for (int w : odd) {
                due("word", x.word(true, v, w, v, w, v), NONE);
                due("tell", x.tell(v, w), NONE);
                due("about", x.about(v, w), -2);
                due("telling", x.telling(v, w), -2);
                due("use", x.use(v, w), NONE);
                due("twins", x.twins(v, w), NONE);
                due("one", x.one(v, w), false);
                due("fill", x.fill(v, w), NONE);
                due("count", x.count(v, true, w, v, w, v), NONE);
                due("ratio", x.ratio(v, w), NONE);
                due("spelled", x.spelled(v, w), NONE);
                due("reading", x.reading(v, w), NONE);
                due("value", x.value(v, w), NONE);
            }
            due("site", x.site(v), false);
            due("view", x.view(v), false);
            due("row", x.row(v), NONE);
            due("column", x.column(v), NONE);
            due("initial", x.initial(v), NONE);
            due("fills", x.fills(v), NONE);
            due("sureRatio", x.sureRatio(v), NONE);
            due("odd", x.odd(v), NONE);
            due("end", x.end(v), NONE);
            due("fault", x.fault(v), NONE);
            due("sure", x.sure(v), NONE);
            due("next", x.next(v), NONE);
            due("many", x.many(v), -2);
            due("image", x.image(v), false);
            due("again", x.again(v), false);
        }
        due("words", x.many(0), 1);
        due("tellings", x.many(1), 1);
        due("the gap alone is the name's", x.reading(0, 0), 0);
        // more rows than any object is promised to take
        UnreadScript y = new UnreadScript();
        y.account();
        for (int i = 0; i < 2000; i++) y.count(0, true, i % 10, 0, 0, 0);
        for (int i = 0; i < 2000; i++) y.count(0, false, i % 10, 0, 0, 0);
        y.sets();
    }
}
