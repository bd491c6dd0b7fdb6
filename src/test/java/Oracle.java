import java.util.ArrayList;
import java.util.Arrays;
import java.util.HashMap;
import java.util.HashSet;
import java.util.List;
import java.util.Map;
import java.util.Set;
import java.util.TreeSet;
import java.util.regex.Matcher;
import java.util.regex.Pattern;

/**
 * The document told a second time, as plainly as it can be: nothing is kept but what was told, and every
 * answer is worked out anew from that by trying all cases. It is slow, and shares no code with the class.
 */
final class Oracle {
    record Word(List<Integer> signs, int site, int day, boolean name) {
        boolean whole() {
            return !signs.contains(20);
        }

        int last() {
            return signs.get(signs.size() - 1);
        }
    }

    record Telling(int word, int kind, int day) { }

    record Row(int account, boolean total, int day, int[] counts) { }

    record Name(String text, int day) { }

    record Line(char consonant, String stand, String action, char other) { }

    static final class State {
        int site = 0;
        int day = 0;
        int view = -1;
        int accounts = 0;
        int fault = 0;
        int place = -1;
        StringBuilder tape = new StringBuilder();
        List<Word> words = new ArrayList<>();
        List<Telling> tellings = new ArrayList<>();
        List<Row> rows = new ArrayList<>();
        List<Name> names = new ArrayList<>();
        List<Line> lines = new ArrayList<>();

        State copy() {
            State s = new State();
            s.site = site;
            s.day = day;
            s.view = view;
            s.accounts = accounts;
            s.fault = fault;
            s.place = place;
            s.tape = new StringBuilder(tape);
            s.words = new ArrayList<>(words);
            s.tellings = new ArrayList<>(tellings);
            s.rows = new ArrayList<>(rows);
            s.names = new ArrayList<>(names);
            s.lines = new ArrayList<>(lines);
            return s;
        }
    }

    private State now = new State();
    private final State[] images = new State[3];
    /** The readings, as long as nothing is told; they are too dear to be worked out for every call. */
    private List<int[]> kept = null;

    boolean site(int site) {
        if (site < 0 || site > 3) return false;
        now.site = site;
        return true;
    }

    int word(boolean name, int... given) {
        kept = null;
        List<Integer> signs = new ArrayList<>();
        for (int s : given) signs.add(s);
        while (!signs.isEmpty() && signs.get(signs.size() - 1) == -1) signs.remove(signs.size() - 1);
        if (signs.isEmpty()) return -1;
        int gaps = 0;
        for (int s : signs) {
            if (s < 0 || s > 20) return -1;
            if (s == 20) gaps++;
        }
        if (gaps > 1 || now.words.size() == 60 || now.tellings.size() == 150) return -1;
        if (name && now.words.stream().filter(Word::name).count() == 12) return -1;
        now.words.add(new Word(signs, now.site, now.day, name));
        now.tellings.add(new Telling(now.words.size() - 1, -1, now.day));
        return now.words.size() - 1;
    }

    int tell(int word, int kind) {
        kept = null;
        if (word < 0 || word >= now.words.size() || kind < 0 || kind > 3 || now.tellings.size() == 150) return -1;
        now.tellings.add(new Telling(word, kind, now.day));
        return now.tellings.size() - 1;
    }

    int about(int word, int what) {
        if (word < 0 || word >= now.words.size()) return -2;
        Word w = now.words.get(word);
        if (what == 0) return w.signs.size();
        if (what == 1) return w.site;
        if (what == 2) return w.day;
        if (what == 3) return w.name ? 1 : 0;
        if (what == 4) return cases(seenTellings()).getOrDefault(word, -1);
        for (int k = 0; k < w.signs.size(); k++) if (what == 10 + k) return w.signs.get(k);
        return -2;
    }

    int telling(int k, int what) {
        if (k < 0 || k >= now.tellings.size() || what < 0 || what > 2) return -2;
        Telling t = now.tellings.get(k);
        return new int[] {t.word, t.kind, t.day}[what];
    }

    boolean day(int day) {
        if (day < now.day || day > 999) return false;
        now.day = day;
        return true;
    }

    boolean view(int day) {
        kept = null;
        if (day < -1 || day > now.day) return false;
        now.view = day;
        return true;
    }

    private boolean seen(int day) {
        return now.view == -1 || day <= now.view;
    }

    private List<Telling> seenTellings() {
        List<Telling> list = new ArrayList<>();
        for (Telling t : now.tellings) if (seen(t.day)) list.add(t);
        return list;
    }

    private List<Word> seenWords() {
        List<Word> list = new ArrayList<>();
        for (Word w : now.words) if (seen(w.day)) list.add(w);
        return list;
    }

    private int seenNames() {
        int n = 0;
        for (Name name : now.names) if (seen(name.day)) n++;
        return n;
    }

    private static Map<Integer, Integer> cases(List<Telling> tellings) {
        Map<Integer, Integer> map = new HashMap<>();
        for (Telling t : tellings) if (t.kind >= 0) map.put(t.word, t.kind);
        return map;
    }

    /** Which signs are joined, by reaching on from sign to sign until nothing is new. */
    private static boolean[][] closure(boolean[][] joined) {
        for (int s = 0; s < 20; s++) joined[s][s] = true;
        for (int m = 0; m < 20; m++)
            for (int a = 0; a < 20; a++)
                for (int b = 0; b < 20; b++)
                    if (joined[a][m] && joined[m][b]) joined[a][b] = true;
        return joined;
    }

    private List<List<Integer>> found(List<Telling> tellings, int less, int greater) {
        List<List<Integer>> list = new ArrayList<>();
        for (Telling t : tellings) {
            if (t.kind >= 0) continue;
            List<Integer> signs = new ArrayList<>(now.words.get(t.word).signs);
            signs.replaceAll(s -> s == greater ? less : s);
            list.add(signs);
        }
        return list;
    }

    private static boolean differAtLastAlone(List<Integer> a, List<Integer> b) {
        int n = a.size();
        return n >= 3 && b.size() == n && !a.contains(20) && !b.contains(20)
            && a.subList(0, n - 1).equals(b.subList(0, n - 1)) && !a.get(n - 1).equals(b.get(n - 1));
    }

    private boolean[][] rows(List<Telling> tellings, int less, int greater) {
        boolean[][] joined = new boolean[20][20];
        List<List<Integer>> words = found(tellings, less, greater);
        for (List<Integer> a : words)
            for (List<Integer> b : words)
                if (differAtLastAlone(a, b)) joined[a.get(a.size() - 1)][b.get(b.size() - 1)] = true;
        return closure(joined);
    }

    private boolean[][] columns(List<Telling> tellings, int less, int greater) {
        boolean[][] joined = new boolean[20][20];
        List<List<Integer>> words = found(tellings, less, greater);
        Map<Integer, Integer> cases = cases(tellings);
        for (int a : cases.keySet())
            for (int b : cases.keySet()) {
                int x = words.get(a).get(words.get(a).size() - 1);
                int y = words.get(b).get(words.get(b).size() - 1);
                if (cases.get(a).equals(cases.get(b)) && x != 20 && y != 20) joined[x][y] = true;
            }
        return closure(joined);
    }

    private boolean broken(List<Telling> tellings, int less, int greater) {
        boolean[][] rows = rows(tellings, less, greater);
        boolean[][] columns = columns(tellings, less, greater);
        for (int a = 0; a < 20; a++)
            for (int b = 0; b < 20; b++) if (a != b && rows[a][b] && columns[a][b]) return true;
        return false;
    }

    private static int least(boolean[] joined) {
        int s = 0;
        while (!joined[s]) s++;
        return s;
    }

    private static boolean isSign(int s) {
        return 0 <= s && s <= 19;
    }

    int row(int sign) {
        return isSign(sign) ? least(rows(seenTellings(), -1, -1)[sign]) : -1;
    }

    int column(int sign) {
        return isSign(sign) ? least(columns(seenTellings(), -1, -1)[sign]) : -1;
    }

    int breaker() {
        List<Telling> all = seenTellings();
        if (!broken(all, -1, -1)) return -1;
        for (int k = 0; k < all.size(); k++) if (broken(all.subList(0, k + 1), -1, -1)) return k;
        throw new IllegalStateException();
    }

    int use(int sign, int what) {
        if (!isSign(sign) || what < 0 || what > 2) return -1;
        int n = 0;
        for (Word w : seenWords())
            for (int i = 0; i < w.signs.size(); i++)
                if (w.signs.get(i) == sign && (what == 0 || what == 1 && i == 0 || what == 2 && i == w.signs.size() - 1)) n++;
        return n;
    }

    int initial(int k) {
        List<Integer> used = new ArrayList<>();
        for (int s = 0; s < 20; s++) if (use(s, 0) > 0) used.add(s);
        used.sort((a, b) -> {
            int shares = Integer.compare(use(b, 1) * use(a, 0), use(a, 1) * use(b, 0));
            if (shares != 0) return shares;
            return use(a, 0) != use(b, 0) ? use(b, 0) - use(a, 0) : a - b;
        });
        return k >= 0 && k < used.size() ? used.get(k) : -1;
    }

    int twins(int a, int b) {
        if (!isSign(a) || !isSign(b) || a == b) return -1;
        List<Word> words = seenWords();
        int n = 0;
        for (Word v : words)
            for (Word w : words) {
                if (!v.whole() || !w.whole() || v.signs.size() != w.signs.size()) continue;
                List<List<Integer>> apart = new ArrayList<>();
                for (int i = 0; i < v.signs.size(); i++)
                    if (!v.signs.get(i).equals(w.signs.get(i))) apart.add(List.of(v.signs.get(i), w.signs.get(i)));
                // each pair comes in both orders; only one of them has a first
                if (apart.equals(List.of(List.of(a, b)))) n++;
            }
        return n;
    }

    boolean one(int a, int b) {
        if (!isSign(a) || !isSign(b) || a == b || use(a, 0) == 0 || use(b, 0) == 0) return false;
        Set<Integer> sites = new HashSet<>();
        for (Word w : seenWords()) if (w.signs.contains(a)) sites.add(w.site);
        for (Word w : seenWords()) if (w.signs.contains(b) && sites.contains(w.site)) return false;
        return !broken(seenTellings(), Math.min(a, b), Math.max(a, b));
    }

    private TreeSet<Integer> fillSet(int word) {
        List<Word> words = seenWords();
        if (word < 0 || word >= words.size() || words.get(word).whole()) return null;
        List<Integer> signs = words.get(word).signs;
        int gap = signs.indexOf(20);
        TreeSet<Integer> set = new TreeSet<>();
        for (int s = 0; s < 20; s++) {
            List<Integer> filled = new ArrayList<>(signs);
            filled.set(gap, s);
            for (Word w : words) {
                if (!w.whole()) continue;
                if (w.signs.equals(filled)) set.add(s);
                if (gap < signs.size() - 1 && differAtLastAlone(filled, w.signs)) set.add(s);
            }
        }
        return set;
    }

    int fills(int word) {
        TreeSet<Integer> set = fillSet(word);
        return set == null ? -1 : set.size();
    }

    int fill(int word, int k) {
        TreeSet<Integer> set = fillSet(word);
        if (set == null || k < 0 || k >= set.size()) return -1;
        return new ArrayList<>(set).get(k);
    }

    int account() {
        return now.accounts == 10 ? -1 : now.accounts++;
    }

    private int plain(int account) {
        int n = 0;
        for (Row r : now.rows) if (r.account == account && !r.total) n++;
        return n;
    }

    int count(int account, boolean total, int a, int b, int c, int d) {
        if (account < 0 || account >= now.accounts) return -1;
        for (int x : new int[] {a, b, c, d}) if (x < 0 || x > 9) return -1;
        if (!total && plain(account) == 6) return -1;
        now.rows.add(new Row(account, total, now.day, new int[] {a, b, c, d}));
        return plain(account);
    }

    private static int worth(int[] counts, int[] set) {
        int second = set[0];
        int third = set[1] * second;
        int fourth = set[2] * third;
        return counts[0] + counts[1] * second + counts[2] * third + counts[3] * fourth;
    }

    private List<int[]> fittingSets(int without) {
        List<int[]> list = new ArrayList<>();
        for (int p = 2; p <= 12; p++)
            for (int q = 2; q <= 12; q++)
                for (int r = 2; r <= 12; r++) {
                    int[] set = {p, q, r};
                    boolean fits = true;
                    for (int account = 0; account < now.accounts && fits; account++)
                        fits = account == without || agrees(account, set);
                    if (fits) list.add(set);
                }
        return list;
    }

    private boolean agrees(int account, int[] set) {
        Integer total = null;
        Integer sum = null;
        for (Row r : now.rows) {
            if (r.account != account || !seen(r.day)) continue;
            if (r.total) total = worth(r.counts, set);
            else sum = (sum == null ? 0 : sum) + worth(r.counts, set);
        }
        return total == null || sum == null || total.equals(sum);
    }

    int sets() {
        return fittingSets(-1).size();
    }

    int ratio(int k, int which) {
        List<int[]> list = fittingSets(-1);
        return which < 0 || which > 2 || k < 0 || k >= list.size() ? -1 : list.get(k)[which];
    }

    int sureRatio(int which) {
        if (which < 0 || which > 2) return -1;
        Set<Integer> all = new HashSet<>();
        for (int[] set : fittingSets(-1)) all.add(set[which]);
        return all.size() == 1 ? all.iterator().next() : -1;
    }

    int odd(int k) {
        if (!fittingSets(-1).isEmpty()) return -1;
        List<Integer> list = new ArrayList<>();
        for (int account = 0; account < now.accounts; account++)
            // leaving out an account that does not count changes nothing, so it never helps
            if (!fittingSets(account).isEmpty()) list.add(account);
        return k >= 0 && k < list.size() ? list.get(k) : -1;
    }

    int feed(int... numbers) {
        if (now.tape.length() + 20 > 400) return -1;
        for (int x : numbers) for (int s = 24; s >= 0; s -= 8) now.tape.append((char) (x >> s & 255));
        return now.tape.length();
    }

    int end(int n) {
        if (n < 0 || n > now.tape.length()) return -1;
        now.tape.setLength(n);
        return n;
    }

    private String takeTape() {
        String text = now.tape.toString();
        now.tape.setLength(0);
        now.fault = 0;
        now.place = -1;
        return text;
    }

    private int fails(int fault, int place) {
        now.fault = fault;
        now.place = place;
        return -1;
    }

    int name() {
        kept = null;
        String text = takeTape();
        if (now.names.size() == 5) return -2;
        if (text.isEmpty()) return fails(1, 0);
        for (int i = 0; i < text.length(); i++) if ("ktpsnraeio".indexOf(text.charAt(i)) < 0) return fails(1, i);
        if (text.length() > 10) return fails(2, 10);
        now.names.add(new Name(text, now.day));
        return now.names.size() - 1;
    }

    private static final Pattern TOKEN = Pattern.compile("[a-z]+|[^a-z\\n ]", Pattern.DOTALL);

    int spelling() {
        kept = null;
        String text = takeTape();
        List<String> tokens = new ArrayList<>();
        List<Integer> places = new ArrayList<>();
        Matcher m = TOKEN.matcher(text);
        while (m.find()) {
            tokens.add(m.group());
            places.add(m.start());
        }
        String consonant = "[ktpsnr]";
        String[] plain = {consonant, "open|cluster|end", ":", "drop|echo|last|as", ";"};
        String[] as = {consonant, "open|cluster|end", ":", "as", consonant, ";"};
        List<Line> lines = new ArrayList<>();
        int late = 0;
        int latePlace = -1;
        int at = 0;
        while (at < tokens.size()) {
            boolean isAs = at + 3 < tokens.size() && tokens.get(at + 3).equals("as");
            String[] form = isAs ? as : plain;
            for (int i = 0; i < form.length; i++) {
                if (at + i >= tokens.size()) return fails(1, text.length());
                if (!tokens.get(at + i).matches(form[i])) return fails(1, places.get(at + i));
            }
            String stand = tokens.get(at + 1);
            String action = tokens.get(at + 3);
            if (late == 0 && lines.size() == 16) {
                late = 3;
                latePlace = places.get(at);
            }
            boolean misused = action.equals("echo") && !stand.equals("cluster") || action.equals("last") && stand.equals("open");
            if (late == 0 && misused) {
                late = 2;
                latePlace = places.get(at + 3);
            }
            lines.add(new Line(tokens.get(at).charAt(0), stand, action, isAs ? tokens.get(at + 4).charAt(0) : '-'));
            at += form.length;
        }
        if (late != 0) return fails(late, latePlace);
        now.lines = lines;
        return lines.size();
    }

    int fault(int what) {
        return what == 0 ? now.fault : what == 1 ? now.place : -1;
    }

    private static int valueOf(char consonant, int vowel) {
        return 4 * (" ktpsnr".indexOf(consonant)) + vowel;
    }

    /** The values of a name, or null if it is not spelled. */
    private List<Integer> spell(String text) {
        List<Integer> values = new ArrayList<>();
        String vowels = "aeio";
        for (int i = 0; i < text.length(); i++) {
            char c = text.charAt(i);
            if (vowels.indexOf(c) >= 0) {
                if (i == 0 || vowels.indexOf(text.charAt(i - 1)) >= 0) values.add(vowels.indexOf(c));
                continue;
            }
            String rest = text.substring(i + 1).replaceAll("[^aeio]", "");
            String before = text.substring(0, i).replaceAll("[^aeio]", "");
            int behind = rest.isEmpty() ? -1 : vowels.indexOf(rest.charAt(0));
            int ahead = before.isEmpty() ? -1 : vowels.indexOf(before.charAt(before.length() - 1));
            boolean end = i == text.length() - 1;
            boolean open = !end && vowels.indexOf(text.charAt(i + 1)) >= 0;
            String stand = end ? "end" : open ? "open" : "cluster";
            Line line = null;
            for (Line l : now.lines) if (line == null && l.consonant == c && l.stand.equals(stand)) line = l;
            String action = line == null ? "" : line.action;
            switch (stand + " " + action) {
                case "open " -> values.add(valueOf(c, behind));
                case "open as" -> values.add(valueOf(line.other, behind));
                case "open drop" -> values.add(valueOf(' ', behind));
                case "cluster ", "cluster echo" -> { if (behind >= 0) values.add(valueOf(c, behind)); }
                case "cluster as" -> { if (behind >= 0) values.add(valueOf(line.other, behind)); }
                case "cluster last", "end last" -> { if (ahead >= 0) values.add(valueOf(c, ahead)); }
                case "end as" -> { if (ahead >= 0) values.add(valueOf(line.other, ahead)); }
                case "cluster drop", "end ", "end drop" -> { }
                default -> throw new IllegalStateException(stand + action);
            }
        }
        return values.isEmpty() || values.size() > 5 ? null : values;
    }

    int spelled(int name, int k) {
        if (name < 0 || name >= seenNames()) return -1;
        List<Integer> values = spell(now.names.get(name).text);
        return values == null || k < 0 || k >= values.size() ? -1 : values.get(k);
    }

    /** Each reading: for each name a word, or -1. */
    private List<int[]> allReadings() {
        if (kept == null) kept = workOutReadings();
        return kept;
    }

    private List<int[]> workOutReadings() {
        List<int[]> list = new ArrayList<>();
        boolean any = false;
        for (int name = 0; name < seenNames(); name++) any |= spell(now.names.get(name).text) != null;
        if (any && !broken(seenTellings(), -1, -1)) {
            int[] words = new int[5];
            Arrays.fill(words, -1);
            gather(0, words, list, rows(seenTellings(), -1, -1), columns(seenTellings(), -1, -1));
        }
        return list;
    }

    private void gather(int name, int[] words, List<int[]> list, boolean[][] rows, boolean[][] columns) {
        if (name == seenNames()) {
            if (holds(words, rows, columns)) list.add(words.clone());
            return;
        }
        List<Integer> values = spell(now.names.get(name).text);
        if (values == null) {
            gather(name + 1, words, list, rows, columns);
            return;
        }
        List<Word> seen = seenWords();
        for (int w = 0; w < seen.size(); w++) {
            boolean taken = false;
            for (int n = 0; n < name; n++) taken |= words[n] == w;
            if (taken || !seen.get(w).name || seen.get(w).signs.size() != values.size()) continue;
            words[name] = w;
            gather(name + 1, words, list, rows, columns);
            words[name] = -1;
        }
    }

    private List<int[]> bindings(int[] words) {
        List<int[]> list = new ArrayList<>();
        for (int name = 0; name < 5; name++) {
            if (words[name] < 0) continue;
            List<Integer> values = spell(now.names.get(name).text);
            List<Integer> signs = now.words.get(words[name]).signs;
            for (int i = 0; i < signs.size(); i++)
                if (signs.get(i) != 20) list.add(new int[] {signs.get(i), values.get(i)});
        }
        return list;
    }

    private boolean holds(int[] words, boolean[][] rows, boolean[][] columns) {
        List<int[]> all = bindings(words);
        for (int[] a : all)
            for (int[] b : all) {
                if ((a[0] == b[0]) != (a[1] == b[1])) return false;
                if (rows[a[0]][b[0]] && a[1] / 4 != b[1] / 4) return false;
                if (columns[a[0]][b[0]] && a[1] % 4 != b[1] % 4) return false;
            }
        return true;
    }

    int readings() {
        return allReadings().size();
    }

    int reading(int k, int name) {
        List<int[]> list = allReadings();
        return k < 0 || k >= list.size() || name < 0 || name >= 5 ? -1 : list.get(k)[name];
    }

    private int valueIn(int[] reading, int sign) {
        for (int[] b : bindings(reading)) if (b[0] == sign) return b[1];
        return -1;
    }

    int value(int k, int sign) {
        List<int[]> list = allReadings();
        return k < 0 || k >= list.size() ? -1 : valueIn(list.get(k), sign);
    }

    int sure(int sign) {
        Set<Integer> set = new HashSet<>();
        for (int[] r : allReadings()) set.add(valueIn(r, sign));
        return set.size() == 1 ? set.iterator().next() : -1;
    }

    int next(int what) {
        if (what < 0 || what > 1) return -1;
        List<int[]> list = allReadings();
        if (list.isEmpty()) return -1;
        int best = -1;
        int bestMost = Integer.MAX_VALUE;
        List<Word> seen = seenWords();
        for (int w = 0; w < seen.size(); w++) {
            if (!seen.get(w).name) continue;
            int[] by = new int[6];
            for (int[] r : list) {
                int whose = 5;
                for (int n = 0; n < 5; n++) if (r[n] == w) whose = n;
                by[whose]++;
            }
            int most = Arrays.stream(by).max().getAsInt();
            if (most < bestMost) {
                best = w;
                bestMost = most;
            }
        }
        return what == 0 ? best : bestMost;
    }

    int many(int what) {
        switch (what) {
            case 0: return now.words.size();
            case 1: return now.tellings.size();
            case 2: return now.accounts;
            case 3: return now.names.size();
            case 4: return now.lines.size();
            case 5: return now.day;
            case 6: return now.view;
            case 7: return seenWords().size();
            case 8: return seenNames();
            case 9:
                int n = 0;
                for (int s = 0; s < 20; s++) if (use(s, 0) > 0) n++;
                return n;
            default: return -2;
        }
    }

    boolean image(int k) {
        if (k < 0 || k > 2) return false;
        images[k] = now.copy();
        return true;
    }

    boolean again(int k) {
        kept = null;
        if (k < 0 || k > 2 || images[k] == null) return false;
        now = images[k].copy();
        return true;
    }
}
