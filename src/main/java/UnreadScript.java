import java.util.Arrays;

/** Records in a script that nobody reads yet, and what can be told of its signs, numbers and names. */
public final class UnreadScript {
    public static final int NONE = -1;

    /** The answer for "no such thing" where NONE has a meaning of its own. */
    private static final int NO_SUCH = -2;

    private static final int SIGNS = 20;
    private static final int GAP = 20;
    private static final int WORDS = 60;
    private static final int WORD_LENGTH = 5;
    private static final int NAME_WORDS = 12;
    private static final int SITES = 4;
    private static final int CASES = 4;
    private static final int TELLINGS = 150;
    private static final int LAST_DAY = 999;
    private static final int STEM_LENGTH = 3;

    private static final int ACCOUNTS = 10;
    private static final int PLAIN_ROWS = 6;
    private static final int NUMBER_SIGNS = 4;
    private static final int GREATEST_COUNT = 9;
    private static final int RATIOS = 3;
    private static final int LEAST_RATIO = 2;
    private static final int GREATEST_RATIO = 12;
    /** A row takes a call of its own, and an object is used for 512 calls at most. */
    private static final int ROWS = 512;

    private static final int TAPE_BYTES = 400;
    private static final int FEED_BYTES = 20;
    private static final int NAMES = 5;
    private static final int NAME_LETTERS = 10;
    private static final int LINES = 16;
    private static final int VOWELS = 4;
    private static final int CONSONANTS = 6;
    private static final int VALUES = VOWELS * (CONSONANTS + 1);
    /** A letter's code is its place here: vowels are 0 .. 3, consonant c is c + 3. */
    private static final String LETTERS = "aeioktpsnr";

    private static final int OPEN = 0;
    private static final int CLUSTER = 1;
    private static final int END = 2;
    private static final int STANDS = 3;

    private static final int DROP = 0;
    private static final int ECHO = 1;
    private static final int LAST = 2;
    private static final int AS = 3;

    private static final int IMAGES = 3;

    private final Told told = new Told();
    private final Told[] images = new Told[IMAGES];
    private final int[] given = new int[WORD_LENGTH];

    private final Usage usage = new Usage();
    private final Grid grid = new Grid();
    /** A second grid, so that trying out what might be does not spoil the one that is. */
    private final Grid trial = new Grid();
    private final Sums sums = new Sums();
    private final LineReader reader = new LineReader();
    private final Speller speller = new Speller();
    private final Search search = new Search();

    private boolean usageStale = true;
    private boolean gridStale = true;
    private boolean sumsStale = true;
    private boolean spellerStale = true;
    private boolean searchStale = true;

    public UnreadScript() {
    }

    public boolean site(int site) {
        if (site < 0 || site >= SITES) {
            return false;
        }
        told.site = site;
        return true;
    }

    public int word(boolean name, int a, int b, int c, int d, int e) {
        give(a, b, c, d, e);
        int length = givenLength();
        Corpus corpus = told.corpus;
        if (length == 0 || !corpus.hasRoomFor(name)) {
            return NONE;
        }
        forget();
        return corpus.add(given, length, name, told.site, told.day);
    }

    public int tell(int word, int kind) {
        Corpus corpus = told.corpus;
        if (!corpus.has(word) || kind < 0 || kind >= CASES || corpus.tellings >= TELLINGS) {
            return NONE;
        }
        forget();
        return corpus.addTelling(word, kind, told.day);
    }

    public int about(int word, int what) {
        Corpus corpus = told.corpus;
        if (!corpus.has(word)) {
            return NO_SUCH;
        }
        switch (what) {
            case 0:
                return corpus.length[word];
            case 1:
                return corpus.foundAt[word];
            case 2:
                return corpus.foundOn[word];
            case 3:
                return corpus.nameMark[word];
            case 4:
                return corpus.caseOf(word, told.horizon());
            default:
                int place = what < 10 ? WORD_LENGTH : what - 10;
                return place < corpus.length[word] ? corpus.signAt(word, place) : NO_SUCH;
        }
    }

    public int telling(int k, int what) {
        Corpus corpus = told.corpus;
        if (k < 0 || k >= corpus.tellings) {
            return NO_SUCH;
        }
        switch (what) {
            case 0:
                return corpus.tellingWord[k];
            case 1:
                return corpus.tellingCase[k];
            case 2:
                return corpus.tellingDay[k];
            default:
                return NO_SUCH;
        }
    }

    public boolean day(int day) {
        if (day < told.day || day > LAST_DAY) {
            return false;
        }
        told.day = day;
        return true;
    }

    public boolean view(int day) {
        if (day < NONE || day > told.day) {
            return false;
        }
        forget();
        told.view = day;
        return true;
    }

    public int row(int sign) {
        return isSign(sign) ? freshGrid().rows[sign] : NONE;
    }

    public int column(int sign) {
        return isSign(sign) ? freshGrid().columns[sign] : NONE;
    }

    public int breaker() {
        if (!freshGrid().broken) {
            return NONE;
        }
        return trial.firstBreak(told.corpus, told.horizon());
    }

    public int use(int sign, int what) {
        if (!isSign(sign)) {
            return NONE;
        }
        switch (what) {
            case 0:
                return freshUsage().all[sign];
            case 1:
                return freshUsage().first[sign];
            case 2:
                return freshUsage().last[sign];
            default:
                return NONE;
        }
    }

    public int initial(int k) {
        return freshUsage().ranked(k);
    }

    public int twins(int a, int b) {
        if (!isSign(a) || !isSign(b) || a == b) {
            return NONE;
        }
        return told.corpus.pairsApartBy(a, b, told.horizon());
    }

    public boolean one(int a, int b) {
        if (!isSign(a) || !isSign(b) || a == b || !freshUsage().apart(a, b)) {
            return false;
        }
        trial.build(told.corpus, told.horizon(), Math.min(a, b), Math.max(a, b));
        return !trial.broken;
    }

    public int fills(int word) {
        if (!hasSeenGap(word)) {
            return NONE;
        }
        return Integer.bitCount(told.corpus.fillMask(word, told.horizon()));
    }

    public int fill(int word, int k) {
        if (!hasSeenGap(word) || k < 0) {
            return NONE;
        }
        int mask = told.corpus.fillMask(word, told.horizon());
        int ahead = 0;
        for (int sign = 0; sign < SIGNS; sign++) {
            if (inMask(mask, sign)) {
                if (ahead == k) {
                    return sign;
                }
                ahead++;
            }
        }
        return NONE;
    }

    public int account() {
        Ledger ledger = told.ledger;
        if (ledger.accounts >= ACCOUNTS) {
            return NONE;
        }
        ledger.accounts++;
        return ledger.accounts - 1;
    }

    public int count(int account, boolean total, int a, int b, int c, int d) {
        Ledger ledger = told.ledger;
        if (account < 0 || account >= ledger.accounts) {
            return NONE;
        }
        if (!isCount(a) || !isCount(b) || !isCount(c) || !isCount(d)) {
            return NONE;
        }
        if (!ledger.hasRoomFor(account, total)) {
            return NONE;
        }
        forget();
        ledger.add(account, total, told.day, a | b << 4 | c << 8 | d << 12);
        return ledger.plainRows[account];
    }

    public int sets() {
        return freshSums().found;
    }

    public int ratio(int k, int which) {
        if (!isRatio(which) || k < 0 || k >= freshSums().found) {
            return NONE;
        }
        return sums.ratioOf(k, which);
    }

    public int sureRatio(int which) {
        return isRatio(which) ? freshSums().same(which) : NONE;
    }

    public int odd(int k) {
        return freshSums().oddAccount(k);
    }

    public int feed(int a, int b, int c, int d, int e) {
        if (told.tapeLength > TAPE_BYTES - FEED_BYTES) {
            return NONE;
        }
        give(a, b, c, d, e);
        for (int i = 0; i < given.length; i++) {
            told.append(given[i]);
        }
        return told.tapeLength;
    }

    public int end(int n) {
        if (n < 0 || n > told.tapeLength) {
            return NONE;
        }
        told.tapeLength = n;
        return n;
    }

    public int name() {
        int length = told.takeTape();
        told.setFault(0, NONE);
        if (told.lexicon.names >= NAMES) {
            return NO_SUCH;
        }
        int stranger = told.firstNoLetter(length);
        if (stranger != NONE) {
            told.setFault(1, stranger);
            return NONE;
        }
        if (length > NAME_LETTERS) {
            told.setFault(2, NAME_LETTERS);
            return NONE;
        }
        forget();
        return told.lexicon.addName(told.tape, length, told.day);
    }

    public int spelling() {
        int length = told.takeTape();
        reader.readText(told.tape, length);
        told.setFault(reader.faultFound(), reader.faultPlace());
        if (told.fault != 0) {
            return NONE;
        }
        forget();
        told.lexicon.setLines(reader.lines, reader.actions, reader.others);
        return told.lexicon.lines;
    }

    public int fault(int what) {
        if (what == 0) {
            return told.fault;
        }
        return what == 1 ? told.faultAt : NONE;
    }

    public int spelled(int name, int k) {
        if (!isSeenName(name) || k < 0 || k >= freshSpeller().spelledLength(name)) {
            return NONE;
        }
        return speller.valueAt(name, k);
    }

    public int readings() {
        return freshSearch().total;
    }

    public int reading(int k, int name) {
        if (!isSeenName(name) || !freshSearch().bring(k)) {
            return NONE;
        }
        return search.keptWords[name];
    }

    public int value(int k, int sign) {
        if (!isSign(sign) || !freshSearch().bring(k)) {
            return NONE;
        }
        return search.keptValues[sign];
    }

    public int sure(int sign) {
        return isSign(sign) ? freshSearch().sureOf(sign) : NONE;
    }

    public int next(int what) {
        if (what < 0 || what > 1) {
            return NONE;
        }
        return what == 0 ? freshSearch().bestWord : freshSearch().bestLeft;
    }

    public int many(int what) {
        Corpus corpus = told.corpus;
        switch (what) {
            case 0:
                return corpus.size;
            case 1:
                return corpus.tellings;
            case 2:
                return told.ledger.accounts;
            case 3:
                return told.lexicon.names;
            case 4:
                return told.lexicon.lines;
            case 5:
                return told.day;
            case 6:
                return told.view;
            case 7:
                return corpus.seenWords(told.horizon());
            case 8:
                return told.lexicon.seenNames(told.horizon());
            case 9:
                return freshUsage().usedSigns();
            default:
                return NO_SUCH;
        }
    }

    public boolean image(int k) {
        if (k < 0 || k >= IMAGES) {
            return false;
        }
        Told kept = images[k];
        if (kept == null) {
            kept = new Told();
            images[k] = kept;
        }
        kept.copyFrom(told);
        return true;
    }

    public boolean again(int k) {
        if (k < 0 || k >= IMAGES) {
            return false;
        }
        Told kept = images[k];
        if (kept == null) {
            return false;
        }
        forget();
        told.copyFrom(kept);
        return true;
    }

    private static boolean isSign(int sign) {
        return sign >= 0 && sign < SIGNS;
    }

    private static boolean isCount(int count) {
        return count >= 0 && count <= GREATEST_COUNT;
    }

    private static boolean isRatio(int which) {
        return which >= 0 && which < RATIOS;
    }

    private static boolean inMask(int mask, int bit) {
        return (mask >> bit & 1) != 0;
    }

    private boolean isSeenName(int name) {
        return name >= 0 && name < told.lexicon.seenNames(told.horizon());
    }

    private boolean hasSeenGap(int word) {
        Corpus corpus = told.corpus;
        return word >= 0 && word < corpus.seenWords(told.horizon()) && corpus.gapAt[word] != NONE;
    }

    private void give(int a, int b, int c, int d, int e) {
        given[0] = a;
        given[1] = b;
        given[2] = c;
        given[3] = d;
        given[4] = e;
    }

    /** How many signs are given, or 0 if what is given is no word. */
    private int givenLength() {
        int length = 0;
        int gaps = 0;
        for (int i = 0; i < given.length; i++) {
            int sign = given[i];
            if (sign == NONE) {
                continue;
            }
            if (i != length || !isSign(sign) && sign != GAP) {
                return 0;
            }
            length++;
            gaps += sign == GAP ? 1 : 0;
        }
        return gaps > 1 ? 0 : length;
    }

    /** What was worked out no longer holds, as what is told or seen changes. */
    private void forget() {
        usageStale = true;
        gridStale = true;
        sumsStale = true;
        spellerStale = true;
        searchStale = true;
    }

    private Usage freshUsage() {
        if (usageStale) {
            usage.build(told.corpus, told.horizon());
            usageStale = false;
        }
        return usage;
    }

    private Grid freshGrid() {
        if (gridStale) {
            grid.build(told.corpus, told.horizon(), NONE, NONE);
            gridStale = false;
        }
        return grid;
    }

    private Sums freshSums() {
        if (sumsStale) {
            sums.build(told.ledger, told.horizon());
            sumsStale = false;
        }
        return sums;
    }

    private Speller freshSpeller() {
        if (spellerStale) {
            speller.build(told.lexicon, told.horizon());
            spellerStale = false;
        }
        return speller;
    }

    private Search freshSearch() {
        if (searchStale) {
            search.build(told.corpus, told.horizon(), freshGrid(), freshSpeller());
            searchStale = false;
        }
        return search;
    }

    /** All that is told: just what an image keeps. */
    private static final class Told {
        final Corpus corpus = new Corpus();
        final Ledger ledger = new Ledger();
        final Lexicon lexicon = new Lexicon();
        final byte[] tape = new byte[TAPE_BYTES];
        int tapeLength = 0;
        int fault = 0;
        int faultAt = NONE;
        int site = 0;
        int day = 0;
        int view = NONE;

        /** The last day that is seen: nothing told is later than now. */
        int horizon() {
            return view == NONE ? day : view;
        }

        void append(int number) {
            for (int shift = 24; shift >= 0 && tapeLength < tape.length; shift -= 8) {
                tape[tapeLength] = (byte) (number >>> shift);
                tapeLength++;
            }
        }

        /** Empties the tape; its bytes stay readable until the next feed. */
        int takeTape() {
            int length = tapeLength;
            tapeLength = 0;
            return length;
        }

        void setFault(int newFault, int place) {
            fault = newFault;
            faultAt = place;
        }

        int firstNoLetter(int length) {
            for (int i = 0; i < length; i++) {
                if (LETTERS.indexOf((char) (tape[i] & 255)) < 0) {
                    return i;
                }
            }
            return length == 0 ? 0 : NONE;
        }

        void copyFrom(Told other) {
            corpus.copyFrom(other.corpus);
            ledger.copyFrom(other.ledger);
            lexicon.copyFrom(other.lexicon);
            System.arraycopy(other.tape, 0, tape, 0, other.tapeLength);
            tapeLength = other.tapeLength;
            fault = other.fault;
            faultAt = other.faultAt;
            site = other.site;
            day = other.day;
            view = other.view;
        }
    }

    /** Words and tellings, both in the order of their days: a view sees the first ones of each. */
    private static final class Corpus {
        int size = 0;
        int nameWords = 0;
        int tellings = 0;
        final int[] signs = new int[WORDS * WORD_LENGTH];
        final int[] length = new int[WORDS];
        final int[] gapAt = new int[WORDS];
        final int[] foundAt = new int[WORDS];
        final int[] foundOn = new int[WORDS];
        /** 1 where the word may be a name's, else 0. */
        final int[] nameMark = new int[WORDS];
        final int[] tellingWord = new int[TELLINGS];
        final int[] tellingCase = new int[TELLINGS];
        final int[] tellingDay = new int[TELLINGS];

        boolean has(int word) {
            return word >= 0 && word < size;
        }

        boolean hasRoomFor(boolean name) {
            return size < WORDS && tellings < TELLINGS && (!name || nameWords < NAME_WORDS);
        }

        int signAt(int word, int place) {
            return signs[word * WORD_LENGTH + place];
        }

        int add(int[] row, int rowLength, boolean name, int site, int day) {
            int word = size;
            gapAt[word] = NONE;
            for (int i = 0; i < rowLength; i++) {
                signs[word * WORD_LENGTH + i] = row[i];
                if (row[i] == GAP) {
                    gapAt[word] = i;
                }
            }
            length[word] = rowLength;
            foundAt[word] = site;
            foundOn[word] = day;
            nameMark[word] = name ? 1 : 0;
            nameWords += nameMark[word];
            size++;
            addTelling(word, NONE, day);
            return word;
        }

        int addTelling(int word, int kind, int day) {
            tellingWord[tellings] = word;
            tellingCase[tellings] = kind;
            tellingDay[tellings] = day;
            tellings++;
            return tellings - 1;
        }

        int seenWords(int horizon) {
            int seen = 0;
            while (seen < size && foundOn[seen] <= horizon) {
                seen++;
            }
            return seen;
        }

        int seenTellings(int horizon) {
            int seen = 0;
            while (seen < tellings && tellingDay[seen] <= horizon) {
                seen++;
            }
            return seen;
        }

        int caseOf(int word, int horizon) {
            for (int k = seenTellings(horizon) - 1; k >= 0; k--) {
                if (tellingWord[k] == word) {
                    return tellingCase[k];
                }
            }
            return NONE;
        }

        /** The one place at which two words without a gap, of one length, differ; NONE if there is none such. */
        int placeApart(int word, int other) {
            if (length[word] != length[other] || gapAt[word] != NONE || gapAt[other] != NONE) {
                return NONE;
            }
            int apart = NONE;
            for (int i = 0; i < length[word]; i++) {
                if (signAt(word, i) != signAt(other, i)) {
                    if (apart != NONE) {
                        return NONE;
                    }
                    apart = i;
                }
            }
            return apart;
        }

        int pairsApartBy(int a, int b, int horizon) {
            int pairs = 0;
            int seen = seenWords(horizon);
            for (int word = 1; word < seen; word++) {
                for (int other = 0; other < word; other++) {
                    int place = placeApart(word, other);
                    if (place != NONE && arePair(signAt(word, place), signAt(other, place), a, b)) {
                        pairs++;
                    }
                }
            }
            return pairs;
        }

        private static boolean arePair(int x, int y, int a, int b) {
            return x == a && y == b || x == b && y == a;
        }

        int fillMask(int word, int horizon) {
            int mask = 0;
            int seen = seenWords(horizon);
            for (int other = 0; other < seen; other++) {
                if (isFilledBy(word, other)) {
                    mask |= 1 << signAt(other, gapAt[word]);
                }
            }
            return mask;
        }

        /** The last sign is free where the filled word and the other one would share a stem. */
        private boolean isFilledBy(int word, int other) {
            if (length[word] != length[other] || gapAt[other] != NONE) {
                return false;
            }
            int gap = gapAt[word];
            int last = length[word] - 1;
            boolean lastIsFree = gap != last && length[word] >= STEM_LENGTH;
            for (int i = 0; i <= last; i++) {
                boolean free = i == gap || i == last && lastIsFree;
                if (!free && signAt(word, i) != signAt(other, i)) {
                    return false;
                }
            }
            return true;
        }

        void copyFrom(Corpus other) {
            size = other.size;
            nameWords = other.nameWords;
            tellings = other.tellings;
            System.arraycopy(other.signs, 0, signs, 0, size * WORD_LENGTH);
            System.arraycopy(other.length, 0, length, 0, size);
            System.arraycopy(other.gapAt, 0, gapAt, 0, size);
            System.arraycopy(other.foundAt, 0, foundAt, 0, size);
            System.arraycopy(other.foundOn, 0, foundOn, 0, size);
            System.arraycopy(other.nameMark, 0, nameMark, 0, size);
            System.arraycopy(other.tellingWord, 0, tellingWord, 0, tellings);
            System.arraycopy(other.tellingCase, 0, tellingCase, 0, tellings);
            System.arraycopy(other.tellingDay, 0, tellingDay, 0, tellings);
        }
    }

    /**
     * The rows of the accounts, in the order of their days. A total told anew stands behind the old one,
     * which an earlier view still sees. A row is one number: four counts of four bits, the account in
     * four bits, the total's bit, the day.
     */
    private static final class Ledger {
        private static final int ACCOUNT_SHIFT = 16;
        private static final int TOTAL_SHIFT = 20;
        private static final int DAY_SHIFT = 21;

        int accounts = 0;
        int rows = 0;
        final int[] row = new int[ROWS];
        final int[] plainRows = new int[ACCOUNTS];

        boolean hasRoomFor(int account, boolean total) {
            return rows < ROWS && (total || plainRows[account] < PLAIN_ROWS);
        }

        void add(int account, boolean total, int day, int counts) {
            int kind = total ? 1 : 0;
            row[rows] = counts | account << ACCOUNT_SHIFT | kind << TOTAL_SHIFT | day << DAY_SHIFT;
            rows++;
            if (!total) {
                plainRows[account]++;
            }
        }

        int seenRows(int horizon) {
            int seen = 0;
            while (seen < rows && row[seen] >> DAY_SHIFT <= horizon) {
                seen++;
            }
            return seen;
        }

        int accountOf(int k) {
            return row[k] >> ACCOUNT_SHIFT & 15;
        }

        boolean isTotal(int k) {
            return (row[k] >> TOTAL_SHIFT & 1) != 0;
        }

        int countOf(int k, int numberSign) {
            return row[k] >> 4 * numberSign & 15;
        }

        void copyFrom(Ledger other) {
            accounts = other.accounts;
            rows = other.rows;
            System.arraycopy(other.row, 0, row, 0, rows);
            System.arraycopy(other.plainRows, 0, plainRows, 0, ACCOUNTS);
        }
    }

    /** Names, in the order of their days, and the spelling's lines. */
    private static final class Lexicon {
        int names = 0;
        final int[] letters = new int[NAMES * NAME_LETTERS];
        final int[] nameLength = new int[NAMES];
        final int[] nameDay = new int[NAMES];
        int lines = 0;
        /** Only the first line for a consonant and its stand ever holds: see slot. */
        final int[] actions = new int[CONSONANTS * STANDS];
        final int[] others = new int[CONSONANTS * STANDS];

        Lexicon() {
            Arrays.fill(actions, NONE);
        }

        static int slot(int consonant, int stand) {
            return (consonant - 1) * STANDS + stand;
        }

        int addName(byte[] tape, int length, int day) {
            for (int i = 0; i < length; i++) {
                letters[names * NAME_LETTERS + i] = LETTERS.indexOf((char) (tape[i] & 255));
            }
            nameLength[names] = length;
            nameDay[names] = day;
            names++;
            return names - 1;
        }

        int seenNames(int horizon) {
            int seen = 0;
            while (seen < names && nameDay[seen] <= horizon) {
                seen++;
            }
            return seen;
        }

        void setLines(int newLines, int[] newActions, int[] newOthers) {
            lines = newLines;
            System.arraycopy(newActions, 0, actions, 0, actions.length);
            System.arraycopy(newOthers, 0, others, 0, others.length);
        }

        void copyFrom(Lexicon other) {
            names = other.names;
            System.arraycopy(other.letters, 0, letters, 0, names * NAME_LETTERS);
            System.arraycopy(other.nameLength, 0, nameLength, 0, names);
            System.arraycopy(other.nameDay, 0, nameDay, 0, names);
            setLines(other.lines, other.actions, other.others);
        }
    }

    /** How often, and where, each sign stands in the words that are seen. */
    private static final class Usage {
        final int[] all = new int[SIGNS];
        final int[] first = new int[SIGNS];
        final int[] last = new int[SIGNS];
        final int[] siteMask = new int[SIGNS];

        void build(Corpus corpus, int horizon) {
            Arrays.fill(all, 0);
            Arrays.fill(first, 0);
            Arrays.fill(last, 0);
            Arrays.fill(siteMask, 0);
            int seen = corpus.seenWords(horizon);
            for (int word = 0; word < seen; word++) {
                take(corpus, word);
            }
        }

        private void take(Corpus corpus, int word) {
            int end = corpus.length[word] - 1;
            for (int i = 0; i <= end; i++) {
                int sign = corpus.signAt(word, i);
                if (sign == GAP) {
                    continue;
                }
                all[sign]++;
                first[sign] += i == 0 ? 1 : 0;
                last[sign] += i == end ? 1 : 0;
                siteMask[sign] |= 1 << corpus.foundAt[word];
            }
        }

        int usedSigns() {
            int used = 0;
            for (int sign = 0; sign < SIGNS; sign++) {
                used += all[sign] > 0 ? 1 : 0;
            }
            return used;
        }

        boolean apart(int a, int b) {
            return all[a] > 0 && all[b] > 0 && (siteMask[a] & siteMask[b]) == 0;
        }

        /** The used sign that has just k others ahead of it. */
        int ranked(int k) {
            for (int sign = 0; sign < SIGNS; sign++) {
                if (all[sign] > 0 && signsAhead(sign) == k) {
                    return sign;
                }
            }
            return NONE;
        }

        private int signsAhead(int sign) {
            int count = 0;
            for (int other = 0; other < SIGNS; other++) {
                count += all[other] > 0 && isAhead(other, sign) ? 1 : 0;
            }
            return count;
        }

        /** Crosswise products compare the shares exactly. */
        private boolean isAhead(int a, int b) {
            int shareA = first[a] * all[b];
            int shareB = first[b] * all[a];
            if (shareA != shareB) {
                return shareA > shareB;
            }
            return all[a] != all[b] ? all[a] > all[b] : a < b;
        }
    }

    /** Rows and columns of signs, each sign labelled by the least one that it is joined with. */
    private static final class Grid {
        final int[] rows = new int[SIGNS];
        final int[] columns = new int[SIGNS];
        boolean broken = false;
        private final int[] cases = new int[WORDS];
        private final int[] firstOfCase = new int[CASES];
        private int words = 0;
        /** The greater of two signs is read as the less one; NONE if all are read as they are. */
        private int less = NONE;
        private int greater = NONE;

        void build(Corpus corpus, int horizon, int lessSign, int greaterSign) {
            start(lessSign, greaterSign);
            int seen = corpus.seenTellings(horizon);
            for (int k = 0; k < seen; k++) {
                take(corpus, k);
            }
            joinColumns(corpus);
            broken = isBroken();
        }

        /** A case told anew may mend the grid, so the columns are joined afresh behind every telling. */
        int firstBreak(Corpus corpus, int horizon) {
            start(NONE, NONE);
            int seen = corpus.seenTellings(horizon);
            for (int k = 0; k < seen; k++) {
                take(corpus, k);
                joinColumns(corpus);
                if (isBroken()) {
                    return k;
                }
            }
            return NONE;
        }

        private void start(int lessSign, int greaterSign) {
            less = lessSign;
            greater = greaterSign;
            words = 0;
            separate(rows);
        }

        private static void separate(int[] labels) {
            for (int sign = 0; sign < SIGNS; sign++) {
                labels[sign] = sign;
            }
        }

        private void take(Corpus corpus, int telling) {
            int word = corpus.tellingWord[telling];
            cases[word] = corpus.tellingCase[telling];
            if (cases[word] == NONE) {
                for (int other = 0; other < word; other++) {
                    joinStems(corpus, word, other);
                }
                words = word + 1;
            }
        }

        private int signAt(Corpus corpus, int word, int place) {
            int sign = corpus.signAt(word, place);
            return sign == greater ? less : sign;
        }

        private void joinStems(Corpus corpus, int word, int other) {
            int length = corpus.length[word];
            if (length < STEM_LENGTH || corpus.length[other] != length) {
                return;
            }
            if (corpus.gapAt[word] != NONE || corpus.gapAt[other] != NONE) {
                return;
            }
            for (int i = 0; i < length - 1; i++) {
                if (signAt(corpus, word, i) != signAt(corpus, other, i)) {
                    return;
                }
            }
            join(rows, signAt(corpus, word, length - 1), signAt(corpus, other, length - 1));
        }

        private void joinColumns(Corpus corpus) {
            separate(columns);
            Arrays.fill(firstOfCase, NONE);
            for (int word = 0; word < words; word++) {
                int kind = cases[word];
                int sign = signAt(corpus, word, corpus.length[word] - 1);
                if (kind == NONE || sign == GAP) {
                    continue;
                }
                if (firstOfCase[kind] == NONE) {
                    firstOfCase[kind] = sign;
                } else {
                    join(columns, firstOfCase[kind], sign);
                }
            }
        }

        private static void join(int[] labels, int a, int b) {
            int low = Math.min(labels[a], labels[b]);
            int high = Math.max(labels[a], labels[b]);
            if (low == high) {
                return;
            }
            for (int sign = 0; sign < SIGNS; sign++) {
                if (labels[sign] == high) {
                    labels[sign] = low;
                }
            }
        }

        private boolean isBroken() {
            for (int sign = 1; sign < SIGNS; sign++) {
                for (int other = 0; other < sign; other++) {
                    if (rows[sign] == rows[other] && columns[sign] == columns[other]) {
                        return true;
                    }
                }
            }
            return false;
        }
    }

    /** The sets of ratios by which the accounts come out. */
    private static final class Sums {
        int found = 0;
        /** Total less plain rows, for each account and number sign. */
        private final int[] excess = new int[ACCOUNTS * NUMBER_SIGNS];
        private final int[] totals = new int[ACCOUNTS * NUMBER_SIGNS];
        private final boolean[] hasTotal = new boolean[ACCOUNTS];
        private final boolean[] hasPlain = new boolean[ACCOUNTS];
        private final int[] counting = new int[ACCOUNTS];
        private int countingSize = 0;
        private final boolean[] spoils = new boolean[ACCOUNTS];
        private final int[] least = new int[RATIOS];
        private final int[] greatest = new int[RATIOS];
        private final int[] set = new int[RATIOS];

        void build(Ledger ledger, int horizon) {
            clear();
            int seen = ledger.seenRows(horizon);
            for (int k = 0; k < seen; k++) {
                take(ledger, k);
            }
            for (int account = 0; account < ACCOUNTS; account++) {
                if (hasTotal[account] && hasPlain[account]) {
                    addTotal(account);
                    counting[countingSize] = account;
                    countingSize++;
                }
            }
            solve();
        }

        private void clear() {
            found = 0;
            countingSize = 0;
            Arrays.fill(excess, 0);
            for (int account = 0; account < ACCOUNTS; account++) {
                hasTotal[account] = false;
                hasPlain[account] = false;
                spoils[account] = false;
            }
            Arrays.fill(least, GREATEST_RATIO);
            Arrays.fill(greatest, LEAST_RATIO);
        }

        private void take(Ledger ledger, int k) {
            int account = ledger.accountOf(k);
            boolean total = ledger.isTotal(k);
            for (int i = 0; i < NUMBER_SIGNS; i++) {
                if (total) {
                    totals[account * NUMBER_SIGNS + i] = ledger.countOf(k, i);
                } else {
                    excess[account * NUMBER_SIGNS + i] -= ledger.countOf(k, i);
                }
            }
            if (total) {
                hasTotal[account] = true;
            } else {
                hasPlain[account] = true;
            }
        }

        private void addTotal(int account) {
            for (int i = account * NUMBER_SIGNS; i < (account + 1) * NUMBER_SIGNS; i++) {
                excess[i] += totals[i];
            }
        }

        private void startSets() {
            Arrays.fill(set, LEAST_RATIO);
        }

        /** The next set in order; false behind the last one. */
        private boolean stepSet() {
            for (int i = RATIOS - 1; i >= 0; i--) {
                if (set[i] < GREATEST_RATIO) {
                    set[i]++;
                    return true;
                }
                set[i] = LEAST_RATIO;
            }
            return false;
        }

        /** An account is odd if, of all that count, it alone disagrees with some set. */
        private void solve() {
            startSets();
            boolean more = true;
            for (int n = 0; more && n < 2000; n++) {
                int first = disagreeing(0);
                if (first == NONE) {
                    keepSet();
                } else if (disagreeing(first + 1) == NONE) {
                    spoils[counting[first]] = true;
                }
                more = stepSet();
            }
        }

        private void keepSet() {
            found++;
            for (int i = 0; i < RATIOS; i++) {
                least[i] = Math.min(least[i], set[i]);
                greatest[i] = Math.max(greatest[i], set[i]);
            }
        }

        /** The place, from a place on, of the first account that counts and disagrees with the set. */
        private int disagreeing(int from) {
            int second = set[0];
            int third = second * set[1];
            int fourth = third * set[2];
            for (int i = from; i < countingSize; i++) {
                int at = counting[i] * NUMBER_SIGNS;
                int worth = excess[at] + excess[at + 1] * second + excess[at + 2] * third + excess[at + 3] * fourth;
                if (worth != 0) {
                    return i;
                }
            }
            return NONE;
        }

        int ratioOf(int k, int which) {
            startSets();
            boolean more = true;
            int ahead = 0;
            for (int n = 0; more && n < 2000; n++) {
                if (disagreeing(0) == NONE) {
                    if (ahead == k) {
                        return set[which];
                    }
                    ahead++;
                }
                more = stepSet();
            }
            return NONE;
        }

        int same(int which) {
            return found > 0 && least[which] == greatest[which] ? least[which] : NONE;
        }

        int oddAccount(int k) {
            if (found > 0 || k < 0) {
                return NONE;
            }
            int ahead = 0;
            for (int account = 0; account < ACCOUNTS; account++) {
                if (spoils[account]) {
                    if (ahead == k) {
                        return account;
                    }
                    ahead++;
                }
            }
            return NONE;
        }
    }

    /** Reads a spelling's text into a draft, so that a fault leaves the old spelling as it was. */
    private static final class LineReader {
        private static final int TEXT_END = 0;
        private static final int LETTER_ROW = 1;
        private static final int MARK = 2;
        private static final int STRANGER = 3;

        int lines = 0;
        final int[] actions = new int[CONSONANTS * STANDS];
        final int[] others = new int[CONSONANTS * STANDS];
        private final byte[] text = new byte[TAPE_BYTES];
        private int textLength = 0;
        private int tokenKind = TEXT_END;
        private int tokenStart = 0;
        private int tokenEnd = 0;
        /** Where no text goes on; this comes ahead of every other fault, wherever that is. */
        private int stuckAt = NONE;
        private int misuse = 0;
        private int misuseAt = NONE;

        void readText(byte[] bytes, int length) {
            textLength = Math.min(length, TAPE_BYTES);
            System.arraycopy(bytes, 0, text, 0, textLength);
            lines = 0;
            Arrays.fill(actions, NONE);
            Arrays.fill(others, NONE);
            stuckAt = NONE;
            misuse = 0;
            misuseAt = NONE;
            tokenEnd = 0;
            scan();
            for (int n = 0; n <= TAPE_BYTES && stuckAt == NONE && tokenKind != TEXT_END; n++) {
                readLine();
            }
        }

        int faultFound() {
            return stuckAt != NONE ? 1 : misuse;
        }

        int faultPlace() {
            return stuckAt != NONE ? stuckAt : misuseAt;
        }

        private void readLine() {
            int lineStart = tokenStart;
            int consonant = takeConsonant();
            int stand = takeStand();
            takeMark(':');
            int actionStart = tokenStart;
            int action = takeAction();
            int other = action == AS ? takeConsonant() : NONE;
            takeMark(';');
            if (stuckAt != NONE) {
                return;
            }
            lines++;
            if (lines > LINES) {
                noteMisuse(3, lineStart);
            }
            if (action == ECHO && stand != CLUSTER || action == LAST && stand == OPEN) {
                noteMisuse(2, actionStart);
            }
            int slot = Lexicon.slot(consonant, stand);
            if (actions[slot] == NONE) {
                actions[slot] = action;
                others[slot] = other;
            }
        }

        private void noteMisuse(int kind, int place) {
            if (misuse == 0) {
                misuse = kind;
                misuseAt = place;
            }
        }

        private int byteAt(int place) {
            return text[place] & 255;
        }

        private static boolean isBlank(int c) {
            return c == 10 || c == 32;
        }

        private static boolean isLowLetter(int c) {
            return c >= 'a' && c <= 'z';
        }

        private void scan() {
            int at = tokenEnd;
            while (at < textLength && isBlank(byteAt(at))) {
                at++;
            }
            tokenStart = at;
            if (at >= textLength) {
                tokenEnd = at;
                tokenKind = TEXT_END;
                return;
            }
            int c = byteAt(at);
            at++;
            if (isLowLetter(c)) {
                while (at < textLength && isLowLetter(byteAt(at))) {
                    at++;
                }
                tokenKind = LETTER_ROW;
            } else {
                tokenKind = c == ':' || c == ';' ? MARK : STRANGER;
            }
            tokenEnd = at;
        }

        /** Steps past a token that was due; one that was not is where the text is stuck. */
        private void step(boolean due) {
            if (stuckAt != NONE) {
                return;
            }
            if (due) {
                scan();
            } else {
                stuckAt = tokenStart;
            }
        }

        private boolean isToken(String word) {
            if (tokenKind != LETTER_ROW || tokenEnd - tokenStart != word.length()) {
                return false;
            }
            for (int i = 0; i < word.length(); i++) {
                if (byteAt(tokenStart + i) != word.charAt(i)) {
                    return false;
                }
            }
            return true;
        }

        private int takeConsonant() {
            int consonant = NONE;
            if (tokenKind == LETTER_ROW && tokenEnd - tokenStart == 1) {
                int code = LETTERS.indexOf((char) byteAt(tokenStart));
                consonant = code < VOWELS ? NONE : code - VOWELS + 1;
            }
            step(consonant != NONE);
            return consonant;
        }

        private int takeStand() {
            int stand = NONE;
            if (isToken("open")) {
                stand = OPEN;
            } else if (isToken("cluster")) {
                stand = CLUSTER;
            } else if (isToken("end")) {
                stand = END;
            }
            step(stand != NONE);
            return stand;
        }

        private int takeAction() {
            int action = NONE;
            if (isToken("drop")) {
                action = DROP;
            } else if (isToken("echo")) {
                action = ECHO;
            } else if (isToken("last")) {
                action = LAST;
            } else if (isToken("as")) {
                action = AS;
            }
            step(action != NONE);
            return action;
        }

        private void takeMark(char mark) {
            step(tokenKind == MARK && byteAt(tokenStart) == mark);
        }
    }

    /** Spells the names that are seen. */
    private static final class Speller {
        private final int[] values = new int[NAMES * NAME_LETTERS];
        private final int[] sizes = new int[NAMES];
        private int names = 0;

        void build(Lexicon lexicon, int horizon) {
            names = lexicon.seenNames(horizon);
            for (int name = 0; name < names; name++) {
                spell(lexicon, name);
            }
        }

        /** How many values a name is spelled with, 0 if it is not spelled. */
        int spelledLength(int name) {
            if (name >= names) {
                return 0;
            }
            return sizes[name] > WORD_LENGTH ? 0 : sizes[name];
        }

        int valueAt(int name, int place) {
            return values[name * NAME_LETTERS + place];
        }

        private void spell(Lexicon lexicon, int name) {
            int from = name * NAME_LETTERS;
            int length = lexicon.nameLength[name];
            int size = 0;
            boolean taken = false;
            for (int i = 0; i < length; i++) {
                int code = lexicon.letters[from + i];
                int value = NONE;
                if (code >= VOWELS) {
                    int stand = standAt(lexicon, name, i);
                    value = consonantValue(lexicon, name, i, stand);
                    taken = stand == OPEN;
                } else {
                    value = taken ? NONE : code;
                    taken = false;
                }
                if (value != NONE) {
                    values[from + size] = value;
                    size++;
                }
            }
            sizes[name] = size;
        }

        private static boolean isVowel(Lexicon lexicon, int name, int place) {
            return lexicon.letters[name * NAME_LETTERS + place] < VOWELS;
        }

        private static int standAt(Lexicon lexicon, int name, int place) {
            if (place + 1 >= lexicon.nameLength[name]) {
                return END;
            }
            return isVowel(lexicon, name, place + 1) ? OPEN : CLUSTER;
        }

        private static int consonantValue(Lexicon lexicon, int name, int place, int stand) {
            int consonant = lexicon.letters[name * NAME_LETTERS + place] - VOWELS + 1;
            int slot = Lexicon.slot(consonant, stand);
            int action = lexicon.actions[slot];
            if (action == NONE && stand == END) {
                return NONE;
            }
            if (action == DROP) {
                return stand == OPEN ? vowelBehind(lexicon, name, place) : NONE;
            }
            int spoken = action == AS ? lexicon.others[slot] : consonant;
            boolean ahead = stand == END || action == LAST;
            int vowel = ahead ? vowelAhead(lexicon, name, place) : vowelBehind(lexicon, name, place);
            return vowel == NONE ? NONE : VOWELS * spoken + vowel;
        }

        private static int vowelBehind(Lexicon lexicon, int name, int place) {
            for (int i = place + 1; i < lexicon.nameLength[name]; i++) {
                if (isVowel(lexicon, name, i)) {
                    return lexicon.letters[name * NAME_LETTERS + i];
                }
            }
            return NONE;
        }

        private static int vowelAhead(Lexicon lexicon, int name, int place) {
            for (int i = place - 1; i >= 0; i--) {
                if (isVowel(lexicon, name, i)) {
                    return lexicon.letters[name * NAME_LETTERS + i];
                }
            }
            return NONE;
        }
    }

    /** Which sign has which value while a reading is tried, kept true to the grid. */
    private static final class Assignment {
        final int[] valueOf = new int[SIGNS];
        private final int[] signOf = new int[VALUES];
        private final int[] rowUsers = new int[SIGNS];
        private final int[] rowConsonant = new int[SIGNS];
        private final int[] columnUsers = new int[SIGNS];
        private final int[] columnVowel = new int[SIGNS];
        private final int[] rowOf = new int[SIGNS];
        private final int[] columnOf = new int[SIGNS];

        void start(Grid grid) {
            System.arraycopy(grid.rows, 0, rowOf, 0, SIGNS);
            System.arraycopy(grid.columns, 0, columnOf, 0, SIGNS);
            Arrays.fill(valueOf, NONE);
            Arrays.fill(signOf, NONE);
            Arrays.fill(rowUsers, 0);
            Arrays.fill(columnUsers, 0);
        }

        boolean allows(int sign, int value) {
            if (valueOf[sign] != NONE || signOf[value] != NONE) {
                return false;
            }
            int row = rowOf[sign];
            if (rowUsers[row] > 0 && rowConsonant[row] != value / VOWELS) {
                return false;
            }
            int column = columnOf[sign];
            return columnUsers[column] == 0 || columnVowel[column] == value % VOWELS;
        }

        void bind(int sign, int value) {
            valueOf[sign] = value;
            signOf[value] = sign;
            int row = rowOf[sign];
            rowUsers[row]++;
            rowConsonant[row] = value / VOWELS;
            int column = columnOf[sign];
            columnUsers[column]++;
            columnVowel[column] = value % VOWELS;
        }

        void unbind(int sign) {
            signOf[valueOf[sign]] = NONE;
            valueOf[sign] = NONE;
            rowUsers[rowOf[sign]]--;
            columnUsers[columnOf[sign]]--;
        }
    }

    /** All readings, counted once; a single one is sought again when it is asked for. */
    private static final class Search {
        /** Stands for a sign's sure value once the sign has had several. */
        private static final int SEVERAL = -2;

        int total = 0;
        int bestWord = NONE;
        int bestLeft = NONE;
        final int[] keptWords = new int[NAMES];
        final int[] keptValues = new int[SIGNS];
        private int keptReading = NONE;
        private final Assignment assignment = new Assignment();
        private final int[] pool = new int[NAME_WORDS];
        private final int[] poolSigns = new int[NAME_WORDS * WORD_LENGTH];
        private final int[] poolLength = new int[NAME_WORDS];
        private int poolSize = 0;
        private final int[] sought = new int[NAMES];
        private final int[] soughtValues = new int[NAMES * WORD_LENGTH];
        private final int[] soughtLength = new int[NAMES];
        private int depth = 0;
        private int usedMask = 0;
        /** For each level and word of the pool, in how many readings the word is that level's name. */
        private final int[] held = new int[NAMES * NAME_WORDS];
        private final int[] sureValue = new int[SIGNS];
        private final int[] sureCount = new int[SIGNS];
        private int toSkip = 0;

        void build(Corpus corpus, int horizon, Grid grid, Speller speller) {
            keptReading = NONE;
            usedMask = 0;
            assignment.start(grid);
            Arrays.fill(held, 0);
            Arrays.fill(sureValue, NONE);
            Arrays.fill(sureCount, 0);
            gatherPool(corpus, horizon);
            gatherNames(speller);
            total = grid.broken || depth == 0 ? 0 : tally(0);
            chooseBest();
        }

        private void gatherPool(Corpus corpus, int horizon) {
            poolSize = 0;
            int seen = corpus.seenWords(horizon);
            for (int word = 0; word < seen && poolSize < NAME_WORDS; word++) {
                if (corpus.nameMark[word] == 1) {
                    pool[poolSize] = word;
                    poolLength[poolSize] = corpus.length[word];
                    for (int at = 0; at < WORD_LENGTH; at++) {
                        poolSigns[poolSize * WORD_LENGTH + at] = corpus.signAt(word, at);
                    }
                    poolSize++;
                }
            }
        }

        private void gatherNames(Speller speller) {
            depth = 0;
            for (int name = 0; name < NAMES; name++) {
                int length = speller.spelledLength(name);
                if (length > 0) {
                    sought[depth] = name;
                    soughtLength[depth] = length;
                    for (int at = 0; at < length; at++) {
                        soughtValues[depth * WORD_LENGTH + at] = speller.valueAt(name, at);
                    }
                    depth++;
                }
            }
        }

        /** How many readings there are behind what is placed; each level places one name, at most five. */
        private int tally(int level) {
            if (level >= depth) {
                return 1;
            }
            int sum = 0;
            for (int i = 0; i < poolSize; i++) {
                int bound = place(level, i);
                if (bound == NONE) {
                    continue;
                }
                int below = tally(level + 1);
                lift(i, bound, below);
                held[level * NAME_WORDS + i] += below;
                sum += below;
            }
            return sum;
        }

        /** Walks in the order of the readings until as many as are to be skipped lie behind. */
        private boolean seek(int level) {
            if (level >= depth) {
                toSkip--;
                return toSkip < 0;
            }
            for (int i = 0; i < poolSize; i++) {
                int behind = held[level * NAME_WORDS + i];
                if (level == 0 && toSkip >= behind) {
                    toSkip -= behind;
                    continue;
                }
                int bound = place(level, i);
                if (bound == NONE) {
                    continue;
                }
                boolean found = seek(level + 1);
                if (found) {
                    keep(level, i);
                }
                lift(i, bound, 0);
                if (found) {
                    return true;
                }
            }
            return false;
        }

        /** The innermost level is kept first, while every sign still has its value. */
        private void keep(int level, int i) {
            if (level == depth - 1) {
                Arrays.fill(keptWords, NONE);
                System.arraycopy(assignment.valueOf, 0, keptValues, 0, SIGNS);
            }
            keptWords[sought[level]] = pool[i];
        }

        /** The signs that are bound anew by a word for a level's name, as a mask; NONE if it can't be. */
        private int place(int level, int i) {
            int length = poolLength[i];
            if (length != soughtLength[level] || inMask(usedMask, i)) {
                return NONE;
            }
            usedMask |= 1 << i;
            int bound = 0;
            for (int at = 0; at < length; at++) {
                int sign = poolSigns[i * WORD_LENGTH + at];
                int value = soughtValues[level * WORD_LENGTH + at];
                if (sign == GAP || assignment.valueOf[sign] == value) {
                    continue;
                }
                if (!assignment.allows(sign, value)) {
                    lift(i, bound, 0);
                    return NONE;
                }
                assignment.bind(sign, value);
                bound |= 1 << sign;
            }
            return bound;
        }

        /** A sign is lifted by the word that bound it, so each reading counts once for each of its signs. */
        private void lift(int i, int bound, int below) {
            usedMask &= ~(1 << i);
            for (int at = 0; at < poolLength[i]; at++) {
                int sign = poolSigns[i * WORD_LENGTH + at];
                if (inMask(bound, sign) && assignment.valueOf[sign] != NONE) {
                    noteValue(sign, assignment.valueOf[sign], below);
                    assignment.unbind(sign);
                }
            }
        }

        private void noteValue(int sign, int value, int below) {
            if (below == 0) {
                return;
            }
            if (sureValue[sign] == NONE) {
                sureValue[sign] = value;
            } else if (sureValue[sign] != value) {
                sureValue[sign] = SEVERAL;
            }
            sureCount[sign] += below;
        }

        int sureOf(int sign) {
            boolean sure = total > 0 && sureCount[sign] == total && sureValue[sign] != SEVERAL;
            return sure ? sureValue[sign] : NONE;
        }

        private void chooseBest() {
            bestWord = NONE;
            bestLeft = NONE;
            for (int i = 0; i < poolSize && total > 0; i++) {
                int left = greatestLeft(i);
                if (bestWord == NONE || left < bestLeft) {
                    bestWord = pool[i];
                    bestLeft = left;
                }
            }
        }

        /** How many readings may be left, at most, once the word is read. */
        private int greatestLeft(int i) {
            int most = 0;
            int none = total;
            for (int level = 0; level < depth; level++) {
                int count = held[level * NAME_WORDS + i];
                most = Math.max(most, count);
                none -= count;
            }
            return Math.max(most, none);
        }

        /** Makes the k-th reading the kept one; false if there is none such. */
        boolean bring(int k) {
            if (k < 0 || k >= total) {
                return false;
            }
            if (k != keptReading) {
                toSkip = k;
                keptReading = seek(0) ? k : NONE;
            }
            return keptReading == k;
        }
    }
}
