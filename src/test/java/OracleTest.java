import java.util.Random;

/** Long runs of drawn calls, each answer held against the oracle's. The draws are the same every time. */
public final class OracleTest {
    private static final int CALLS = 512;
    private static int wrong = 0;
    private static final int[] asked = new int[40];
    private static final int[] told = new int[40];

    private final Random random;
    private final UnreadScript x = new UnreadScript();
    private final Oracle o = new Oracle();
    private final StringBuilder log = new StringBuilder();
    /** How many signs are drawn from: few signs join and clash often. */
    private final int signs;
    private final int stem;
    private final boolean wild;
    private final int kind;
    private final boolean restless;

    private OracleTest(long seed) {
        random = new Random(seed);
        kind = (int) (seed % 4);
        signs = new int[] {3, 5, 8, 20}[random.nextInt(4)];
        stem = 1 + random.nextInt(5);
        wild = random.nextInt(8) == 0;
        restless = random.nextInt(4) == 0;
    }

    public static void main(String[] args) {
        for (int seed = 0; seed < 160 && wrong == 0; seed++) {
            new OracleTest(seed).run(seed);
        }
        for (int seed = 1000; seed < 1300 && wrong == 0; seed++) {
            new OracleTest(seed).runHidden(seed);
        }
        for (int i = 0; i < 37; i++) {
            if (asked[i] > 0 && told[i] == 0) {
                System.out.println("call " + i + " never answered anything but none in " + asked[i] + " draws");
                wrong++;
            }
        }
        System.out.println(wrong == 0 ? "the oracle agrees" : "the oracle does not agree");
        if (wrong != 0) System.exit(1);
    }

    private void run(int seed) {
        for (int i = 0; i < CALLS && wrong == 0; i++) {
            if (restless && random.nextInt(6) == 0) whole();
            if (kind == 0 || random.nextInt(3) == 0) records();
            else if (kind == 1 || random.nextInt(3) == 0) sums();
            else if (kind == 2 || random.nextInt(2) == 0) names();
            else whole();
        }
        if (wrong != 0) System.out.println("seed " + seed + " after:\n" + log);
    }

    /** Words and names that a hidden value for each sign makes, so that readings of several names are found. */
    private void runHidden(int seed) {
        int used = draw(3, 6);
        int[] hidden = new int[used];
        for (int s = 0; s < used; s++) {
            boolean again = true;
            while (again) {
                hidden[s] = random.nextInt(28) % draw(6, 28);
                again = false;
                for (int t = 0; t < s; t++) again |= hidden[t] == hidden[s];
            }
        }
        for (int round = 0; round < 3 && wrong == 0; round++) {
            for (int i = draw(1, 3); i > 0; i--) hiddenWord(hidden);
            for (int i = draw(0, 2); i > 0; i--) word(true);
            if (random.nextInt(3) == 0) hiddenCase(hidden);
            if (random.nextInt(3) == 0) hiddenEnding(hidden);
            askReadings();
            whole();
        }
        if (wrong != 0) System.out.println("seed " + seed + " after:\n" + log);
    }

    private void hiddenWord(int[] hidden) {
        int[] w = {-1, -1, -1, -1, -1};
        StringBuilder text = new StringBuilder();
        int length = random.nextInt(3) == 0 ? draw(1, 4) : 2;
        for (int i = 0; i < length; i++) {
            w[i] = random.nextInt(hidden.length);
            int consonant = hidden[w[i]] / 4;
            if (consonant > 0) text.append("ktpsnr".charAt(consonant - 1));
            text.append("aeio".charAt(hidden[w[i]] % 4));
        }
        if (random.nextInt(6) == 0) w[random.nextInt(length)] = 20;
        if (random.nextInt(5) != 0) find(true, w);
        if (random.nextInt(5) != 0) {
            put(text.toString());
            due(25, "name()", x.name(), o.name());
        }
        if (random.nextInt(5) == 0) find(true, w);
    }

    private void hiddenCase(int[] hidden) {
        int sign = random.nextInt(hidden.length);
        find(false, new int[] {sign, -1, -1, -1, -1});
        int word = o.many(0) - 1;
        int c = hidden[sign] % 4;
        due(3, "tell(" + word + ", " + c + ")", x.tell(word, c), o.tell(word, c));
    }

    private void hiddenEnding(int[] hidden) {
        int a = random.nextInt(hidden.length);
        for (int b = 0; b < hidden.length; b++) {
            if (hidden[a] / 4 == hidden[b] / 4) find(false, new int[] {19, a, b, -1, -1});
        }
    }

    private void askReadings() {
        due(29, "readings()", x.readings(), o.readings());
        int n = o.readings();
        for (int i = 0; i < 4 && wrong == 0; i++) {
            int k = i == 0 ? n - 1 : i == 1 ? n : near(0, n);
            for (int name = 0; name < 5; name++) due(30, "reading(" + k + ", " + name + ")", x.reading(k, name), o.reading(k, name));
            int s = random.nextInt(7);
            due(31, "value(" + k + ", " + s + ")", x.value(k, s), o.value(k, s));
        }
        for (int s = 0; s < 7; s++) due(32, "sure(" + s + ")", x.sure(s), o.sure(s));
        for (int w = 0; w < 2; w++) due(33, "next(" + w + ")", x.next(w), o.next(w));
    }

    private void due(int call, String text, int got, int want) {
        asked[call]++;
        if (want >= 0) told[call]++;
        log.append(text).append(" = ").append(got).append('\n');
        if (got != want) {
            wrong++;
            System.out.println(text + " answered " + got + ", due is " + want);
        }
    }

    private void due(int call, String text, boolean got, boolean want) {
        due(call, text, got ? 1 : 0, want ? 1 : 0);
        if (!want) told[call]--;
    }

    private int draw(int from, int to) {
        return from + random.nextInt(to - from + 1);
    }

    /** Mostly within the bounds, now and then next to them or far away. */
    private int near(int from, int to) {
        int r = random.nextInt(30);
        if (r == 0) return from - 1;
        if (r == 1) return to + 1;
        if (r == 2) return random.nextBoolean() ? Integer.MIN_VALUE : Integer.MAX_VALUE;
        return draw(from, to);
    }

    private int sign() {
        return random.nextInt(40) == 0 ? near(-1, 20) : draw(0, signs - 1);
    }

    private int[] drawWord() {
        int[] row = {-1, -1, -1, -1, -1};
        int length = random.nextInt(3) == 0 ? draw(1, 5) : stem;
        for (int i = 0; i < length; i++) row[i] = sign();
        if (random.nextInt(4) == 0) row[random.nextInt(length)] = 20;
        if (random.nextInt(40) == 0) row[random.nextInt(5)] = near(-1, 20);
        return row;
    }

    private void word(boolean name) {
        find(name, drawWord());
    }

    private void find(boolean name, int[] w) {
        due(2, "word(" + name + ", " + w[0] + ", " + w[1] + ", " + w[2] + ", " + w[3] + ", " + w[4] + ")",
            x.word(name, w[0], w[1], w[2], w[3], w[4]), o.word(name, w));
    }

    private void tell() {
        int word = near(0, o.many(0));
        int c = near(0, 3);
        if (random.nextInt(3) != 0 && signs < 8) c = draw(0, 1);
        due(3, "tell(" + word + ", " + c + ")", x.tell(word, c), o.tell(word, c));
    }

    private void records() {
        int a = near(0, signs);
        int b = near(0, signs);
        int w = near(0, o.many(0));
        int k = near(0, 5);
        switch (random.nextInt(16)) {
            case 0: case 1: case 2: if (wild || o.many(0) < 25) word(random.nextInt(3) == 0); break;
            case 3: if (wild || random.nextInt(2) == 0) tell(); break;
            case 4: due(1, "site(" + k + ")", x.site(k), o.site(k)); break;
            case 5: int f = near(-1, 15); due(4, "about(" + w + ", " + f + ")", x.about(w, f), o.about(w, f)); break;
            case 6: int t = near(0, o.many(1)); int g = near(-1, 3);
                due(5, "telling(" + t + ", " + g + ")", x.telling(t, g), o.telling(t, g)); break;
            case 7: due(8, "row(" + a + ")", x.row(a), o.row(a)); break;
            case 8: due(9, "column(" + a + ")", x.column(a), o.column(a)); break;
            case 9: due(10, "breaker()", x.breaker(), o.breaker()); break;
            case 10: int h = near(0, 2); due(11, "use(" + a + ", " + h + ")", x.use(a, h), o.use(a, h)); break;
            case 11: int i = near(0, signs); due(12, "initial(" + i + ")", x.initial(i), o.initial(i)); break;
            case 12: due(13, "twins(" + a + ", " + b + ")", x.twins(a, b), o.twins(a, b)); break;
            case 13: due(14, "one(" + a + ", " + b + ")", x.one(a, b), o.one(a, b)); break;
            case 14: due(15, "fills(" + w + ")", x.fills(w), o.fills(w)); break;
            default: due(16, "fill(" + w + ", " + k + ")", x.fill(w, k), o.fill(w, k)); break;
        }
        if (random.nextInt(10) == 0) whole();
    }

    /** Counts that a hidden set of ratios makes come out, but for a slip now and then. */
    private void fullAccount() {
        int p = draw(2, 12);
        int account = near(0, Math.max(0, o.many(2) - 1));
        int[] a = {draw(0, 4), draw(0, 3), draw(0, 1), draw(0, 1)};
        int[] b = {draw(0, 4), draw(0, 3), draw(0, 1), draw(0, 1)};
        int[] t = new int[4];
        for (int i = 0; i < 4; i++) t[i] = a[i] + b[i];
        for (int i = 0; i < 3; i++) if (t[i] >= p && t[i + 1] < 9) { t[i] -= p; t[i + 1]++; }
        count(account, false, a);
        count(account, false, b);
        if (random.nextInt(6) == 0) t[0] = near(0, 9);
        count(account, true, t);
    }

    private void count(int account, boolean total, int[] c) {
        due(18, "count(" + account + ", " + total + ", " + c[0] + ", " + c[1] + ", " + c[2] + ", " + c[3] + ")",
            x.count(account, total, c[0], c[1], c[2], c[3]), o.count(account, total, c[0], c[1], c[2], c[3]));
    }

    private void sums() {
        int which = near(0, 2);
        int k = random.nextInt(3) == 0 ? near(0, Math.max(0, o.sets())) : near(0, 3);
        switch (random.nextInt(10)) {
            case 0: if (random.nextInt(3) == 0 || wild) due(17, "account()", x.account(), o.account()); break;
            case 1: if (random.nextInt(3) == 0 || wild) fullAccount(); break;
            case 2: if (random.nextInt(4) == 0 || wild)
                count(near(0, o.many(2)), random.nextBoolean(), new int[] {near(0, 9), near(0, 9), near(0, 9), near(0, 9)});
                break;
            case 3: due(19, "sets()", x.sets(), o.sets()); break;
            case 4: case 5: due(20, "ratio(" + k + ", " + which + ")", x.ratio(k, which), o.ratio(k, which)); break;
            case 6: due(21, "sureRatio(" + which + ")", x.sureRatio(which), o.sureRatio(which)); break;
            case 7: case 8: due(22, "odd(" + k + ")", x.odd(k), o.odd(k)); break;
            default: whole(); break;
        }
    }

    private String drawName() {
        StringBuilder text = new StringBuilder();
        int length = random.nextInt(12) == 0 ? draw(0, 12) : draw(1, 5);
        String letters = random.nextBoolean() ? "ktaeka" : "ktpsnraeioaeio";
        for (int i = 0; i < length; i++) text.append(letters.charAt(random.nextInt(letters.length())));
        if (random.nextInt(15) == 0) text.append((char) near(0, 255));
        return text.toString();
    }

    private String pick(String... all) {
        return all[random.nextInt(all.length)];
    }

    private String drawSpelling() {
        StringBuilder text = new StringBuilder();
        int lines = random.nextInt(6) == 0 ? draw(14, 20) : draw(0, 6);
        int slips = random.nextInt(3) == 0 ? 30 : 1000;
        for (int i = 0; i < lines; i++) {
            String stand = pick("open", "cluster", "end");
            String action = pick("drop", "as " + pick("k", "t", "p", "s", "n", "r"), "drop");
            if (stand.equals("cluster")) action = pick(action, "echo", "last");
            if (stand.equals("end")) action = pick(action, "last");
            if (random.nextInt(slips) == 0) action = pick("echo", "last", "lasts", "as", "as a", "ask", "as tt");
            if (random.nextInt(slips) == 0) stand = pick("ope", "drop", ":", "openend", "End");
            text.append(pick("k", "t", "p", "s", "n", "r", "k", "t")).append(' ').append(stand);
            text.append(pick("", " ", "\n")).append(':').append(pick("", " ")).append(action).append(pick("", " ")).append(';');
            if (random.nextInt(slips) == 0) text.setCharAt(random.nextInt(text.length()), (char) draw(0, 255));
        }
        if (random.nextInt(slips) == 0) text.setLength(random.nextInt(text.length() + 1));
        text.append(pick("", " ", "\n\n"));
        if (text.length() > 380) text.setLength(380);
        return text.toString();
    }

    private void put(String text) {
        due(24, "end(0)", x.end(0), o.end(0));
        for (int at = 0; at < text.length(); at += 20) {
            int[] f = new int[5];
            for (int i = 0; i < 20; i++) {
                int c = at + i < text.length() ? text.charAt(at + i) : random.nextInt(256);
                f[i / 4] = f[i / 4] << 8 | c & 255;
            }
            due(23, "feed(" + f[0] + ", " + f[1] + ", " + f[2] + ", " + f[3] + ", " + f[4] + ")",
                x.feed(f[0], f[1], f[2], f[3], f[4]), o.feed(f));
        }
        due(24, "end(" + text.length() + ")", x.end(text.length()), o.end(text.length()));
    }

    private void names() {
        int name = near(0, 4);
        int k = near(0, 4);
        int a = near(0, signs);
        switch (random.nextInt(14)) {
            case 0: if (random.nextInt(4) != 0 && !wild) break;
                put(drawName()); due(25, "name()", x.name(), o.name()); break;
            case 1: if (random.nextInt(2) == 0) break;
                put(drawSpelling()); due(26, "spelling()", x.spelling(), o.spelling()); break;
            case 2: int w = near(0, 1); due(27, "fault(" + w + ")", x.fault(w), o.fault(w)); break;
            case 3: due(28, "spelled(" + name + ", " + k + ")", x.spelled(name, k), o.spelled(name, k)); break;
            case 4: if (o.many(0) < 12) word(random.nextInt(4) != 0); break;
            case 5: due(29, "readings()", x.readings(), o.readings()); break;
            case 6: case 7: int r = random.nextInt(3) == 0 ? near(0, o.readings()) : k;
                due(30, "reading(" + r + ", " + name + ")", x.reading(r, name), o.reading(r, name)); break;
            case 8: case 9: int v = random.nextInt(3) == 0 ? near(0, o.readings()) : k;
                due(31, "value(" + v + ", " + a + ")", x.value(v, a), o.value(v, a)); break;
            case 10: due(32, "sure(" + a + ")", x.sure(a), o.sure(a)); break;
            case 11: int n = near(0, 1); due(33, "next(" + n + ")", x.next(n), o.next(n)); break;
            case 12: if (random.nextInt(2) == 0) tell(); break;
            default: tape(); break;
        }
        if (random.nextInt(15) == 0) whole();
    }

    private void tape() {
        int f = random.nextInt();
        if (random.nextInt(3) == 0) {
            int n = near(0, 60);
            due(24, "end(" + n + ")", x.end(n), o.end(n));
        } else {
            due(23, "feed(" + f + ", 0, 1, -1, 2)", x.feed(f, 0, 1, -1, 2), o.feed(f, 0, 1, -1, 2));
        }
    }

    private void whole() {
        int k = near(0, 2);
        int day = near(o.many(5), o.many(5) + 2);
        int view = random.nextInt(3) == 0 ? -1 : near(-1, o.many(5));
        int what = near(0, 9);
        switch (random.nextInt(6)) {
            case 0: if (day < 500 || random.nextInt(500) == 0) due(6, "day(" + day + ")", x.day(day), o.day(day)); break;
            case 1: due(7, "view(" + view + ")", x.view(view), o.view(view)); break;
            case 2: due(35, "image(" + k + ")", x.image(k), o.image(k)); break;
            case 3: if (restless || random.nextInt(4) == 0) due(36, "again(" + k + ")", x.again(k), o.again(k)); break;
            default: due(34, "many(" + what + ")", x.many(what), o.many(what)); break;
        }
    }
}
