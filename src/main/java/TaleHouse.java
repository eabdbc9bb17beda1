import java.util.Arrays;

/**
 * A house that sells tales in parts while they are written: manuscripts are set, facts are held
 * together, authors are paid by agreements, and printings are weighed by foretold sales.
 */
public final class TaleHouse {
    public static final int NONE = -1;

    private static final int PARTS = 24;
    private static final int EDITIONS = 4;
    private static final int PARAGRAPHS = 20;
    private static final int WORDS = 30;
    private static final int LINES = 120;
    private static final int MOST_LEADS = 2;
    private static final int MOST_COPIES = 100000;
    private static final int SECOND_REFUSAL = -2;
    /** Far above every cost that a setting can have, and far enough below int's end to be added to. */
    private static final int IMPOSSIBLE = 1000000000;
    private static final long NO_WORTH = -9000000000000000000L;

    private final Tape tape;
    private final Manuscript manuscript;
    private final Setting setting;
    private final Parts parts;
    private final Facts facts;
    private final Agreements agreements;
    private final Shelf shelf;
    private final Foretelling foretelling;

    public TaleHouse() {
        tape = new Tape();
        manuscript = new Manuscript();
        setting = new Setting();
        parts = new Parts();
        facts = new Facts();
        agreements = new Agreements();
        shelf = new Shelf();
        foretelling = new Foretelling();
    }

    // ---- the tape

    public int feed(int a, int b, int c, int d, int e) {
        if (!tape.hasRoom()) {
            return NONE;
        }
        tape.append(a);
        tape.append(b);
        tape.append(c);
        tape.append(d);
        tape.append(e);
        return tape.size;
    }

    public boolean end(int n) {
        return tape.shorten(n);
    }

    // ---- setting

    public int paragraph(int cut) {
        return manuscript.addParagraph(cut);
    }

    public int word(int length) {
        return manuscript.addWord(length);
    }

    public int clear() {
        return manuscript.empty();
    }

    public boolean page(int wide, int lines, int lead, int widow) {
        return manuscript.shape(wide, lines, lead, widow);
    }

    public int lines(int p, int n) {
        if (p < 0 || p >= manuscript.count || n < 0) {
            return NONE;
        }
        manuscript.weighBreaks(p);
        int cost = manuscript.breakCost(p, n);
        return cost >= IMPOSSIBLE ? SECOND_REFUSAL : cost;
    }

    public int fill(int lines) {
        if (lines < 1 || lines > LINES) {
            return NONE;
        }
        int cost = setting.leastCost(manuscript, lines);
        if (cost >= IMPOSSIBLE) {
            return SECOND_REFUSAL;
        }
        setting.placeAll(manuscript, lines);
        return cost;
    }

    public int set(int p, int what) {
        return setting.ofParagraph(p, what);
    }

    public int line(int i, int what) {
        return setting.ofLine(i, what);
    }

    // ---- facts

    public int fact(int part, int edition) {
        boolean read = facts.readDraft(tape);
        tape.discard();
        if (!read) {
            return NONE;
        }
        if (!parts.haveEdition(part, edition)) {
            return SECOND_REFUSAL;
        }
        return facts.addDraft(part, edition);
    }

    public int fault(int what) {
        if (what == 0) {
            return tape.faultKind;
        }
        return what == 1 ? tape.faultPlace : NONE;
    }

    public boolean strike(int fact, int edition) {
        return facts.strikeFrom(fact, edition, parts);
    }

    public int quarrel(int a, int b) {
        return facts.quarrelOf(a, b);
    }

    public int quarrels(int e) {
        if (e < 0 || e >= EDITIONS) {
            return NONE;
        }
        return facts.findQuarrels(e, parts);
    }

    public int found(int k, int what) {
        return facts.foundPair(k, what);
    }

    public int mend(int part) {
        return parts.addEdition(part);
    }

    // ---- agreements, days

    public int agree(int part) {
        boolean read = agreements.readDraft(tape);
        tape.discard();
        if (!read) {
            return NONE;
        }
        if (!isPart(part)) {
            return SECOND_REFUSAL;
        }
        return agreements.addDraft(part);
    }

    public int agreed(int part) {
        return isPart(part) ? agreements.latestFor(part) : NONE;
    }

    public long share(int part) {
        if (!isPart(part)) {
            return NONE;
        }
        Agreement agreement = agreements.numbered(agreements.latestFor(part));
        if (agreement == null) {
            return NONE;
        }
        long percents = agreement.percentsOf(shelf.soldOfPart(part));
        long earned = percents * shelf.price / 100;
        long lost = (long) agreement.late * parts.daysLate(part);
        return Math.max(0L, earned - lost);
    }

    public boolean start(int day) {
        return parts.beginOn(day);
    }

    public int came(int part, int day) {
        return parts.arrive(part, day);
    }

    public int due(int part) {
        return isPart(part) ? parts.dueDay(part) : NONE;
    }

    // ---- printing

    public boolean prices(int price, int paper, int plates, int pulp) {
        return shelf.changePrices(price, paper, plates, pulp);
    }

    public boolean keep(int part, int edition, boolean kept) {
        return parts.haveEdition(part, edition) && shelf.keepPlates(slot(part, edition), kept);
    }

    public int print(int part, int edition, int copies) {
        if (!parts.haveEdition(part, edition) || !parts.hasCome(part)) {
            return NONE;
        }
        if (copies < 1 || copies > MOST_COPIES) {
            return NONE;
        }
        return shelf.addPrinted(slot(part, edition), copies);
    }

    public int sell(int part, int edition, int copies) {
        return parts.haveEdition(part, edition) ? shelf.takeSold(slot(part, edition), copies) : NONE;
    }

    public int pulp(int part, int edition) {
        return parts.haveEdition(part, edition) ? shelf.takePulped(slot(part, edition)) : NONE;
    }

    public int stock(int part, int edition, int what) {
        return parts.haveEdition(part, edition) ? shelf.countOf(slot(part, edition), what) : NONE;
    }

    public int volume(int from, int to, int edition, int n) {
        if (n < 1 || !parts.allHaveEdition(from, to, edition)) {
            return NONE;
        }
        int left = shelf.leastLeft(from, to, edition);
        if (left < n) {
            return SECOND_REFUSAL;
        }
        shelf.bind(from, to, edition, n);
        return left - n;
    }

    public int foretell(int sale, int lots) {
        return foretelling.addRow(sale, lots);
    }

    public int best(int part, int edition) {
        if (!parts.haveEdition(part, edition) || foretelling.count == 0) {
            return NONE;
        }
        return foretelling.bestCopies(shelf, slot(part, edition));
    }

    public long worth(int part, int edition, int copies) {
        if (!parts.haveEdition(part, edition) || foretelling.count == 0) {
            return NO_WORTH;
        }
        if (copies < 0 || copies > MOST_COPIES) {
            return NO_WORTH;
        }
        return foretelling.worthOf(shelf, slot(part, edition), copies);
    }

    public long purse() {
        return shelf.money;
    }

    private static boolean isPart(int part) {
        return part >= 0 && part < PARTS;
    }

    /** Where an edition that a part has stands in the shelf's rows. */
    private static int slot(int part, int edition) {
        return part * EDITIONS + edition;
    }

    /** The sum of two costs, where one that is impossible makes the whole impossible. */
    private static int plus(int one, int other) {
        return one >= IMPOSSIBLE || other >= IMPOSSIBLE ? IMPOSSIBLE : one + other;
    }

    /** The bytes that were fed, and their reading, which stops at the first fault. */
    private static final class Tape {
        private static final int ROOM = 200;
        private static final int FED_AT_ONCE = 20;
        private static final int NAME_LETTERS = 10;
        private static final int NUMBER_DIGITS = 5;
        private static final int UNREADABLE = 1;
        private static final int CANNOT_BE = 2;

        private final int[] bytes = new int[ROOM];
        private int size;
        private int at;
        private int faultKind;
        private int faultPlace = NONE;

        boolean hasRoom() {
            return size + FED_AT_ONCE <= ROOM;
        }

        void append(int number) {
            for (int shift = 24; shift >= 0 && size < ROOM; shift -= 8) {
                bytes[size] = (number >>> shift) & 255;
                size++;
            }
        }

        boolean shorten(int length) {
            if (length < 0 || length > size) {
                return false;
            }
            size = length;
            return true;
        }

        void discard() {
            size = 0;
        }

        void open() {
            at = 0;
            faultKind = 0;
            faultPlace = NONE;
        }

        boolean failed() {
            return faultKind != 0;
        }

        /** A name as a number of base 27, so that equal names are equal numbers. */
        long readName() {
            if (failed()) {
                return 0;
            }
            int length = lettersAhead();
            if (length == 0 || isFactWord(length)) {
                fail(UNREADABLE, at);
                return 0;
            }
            if (length > NAME_LETTERS) {
                fail(UNREADABLE, at + NAME_LETTERS);
                return 0;
            }
            long name = 0;
            for (int i = 0; i < length; i++) {
                name = name * 27 + (byteAt(at + i) - 'a' + 1);
            }
            at += length;
            return name;
        }

        int readNumber(int least, int most) {
            if (failed()) {
                return 0;
            }
            int length = digitsAhead();
            if (length == 0) {
                fail(UNREADABLE, at);
                return 0;
            }
            if (length > NUMBER_DIGITS) {
                fail(UNREADABLE, at + NUMBER_DIGITS);
                return 0;
            }
            int number = 0;
            for (int i = 0; i < length; i++) {
                number = number * 10 + (byteAt(at + i) - '0');
            }
            if (number < least || number > most) {
                fail(CANNOT_BE, at);
                return 0;
            }
            at += length;
            return number;
        }

        /** Passes the word if it comes next; it is no fault if another thing does. */
        boolean passWord(String text) {
            if (failed()) {
                return false;
            }
            int length = lettersAhead();
            if (!isWord(text, length)) {
                return false;
            }
            at += length;
            return true;
        }

        void needWord(String text) {
            if (!passWord(text)) {
                failNext();
            }
        }

        void needSign(char sign) {
            skipBlanks();
            if (byteAt(at) == sign) {
                at++;
            } else {
                failNext();
            }
        }

        void needEnd() {
            skipBlanks();
            if (at < size) {
                failNext();
            }
        }

        /** What comes next (or the text's end) is a fault, unless there is an earlier one. */
        void failNext() {
            skipBlanks();
            fail(UNREADABLE, at);
        }

        private void fail(int kind, int place) {
            if (!failed()) {
                faultKind = kind;
                faultPlace = place;
            }
        }

        private int lettersAhead() {
            skipBlanks();
            int next = at;
            while (next < size && byteAt(next) >= 'a' && byteAt(next) <= 'z') {
                next++;
            }
            return next - at;
        }

        private int digitsAhead() {
            skipBlanks();
            int next = at;
            while (next < size && byteAt(next) >= '0' && byteAt(next) <= '9') {
                next++;
            }
            return next - at;
        }

        private void skipBlanks() {
            while (at < size && (bytes[at] == 10 || bytes[at] == 32)) {
                at++;
            }
        }

        private int byteAt(int place) {
            return place >= 0 && place < size && place < ROOM ? bytes[place] : NONE;
        }

        private boolean isFactWord(int length) {
            return isWord("born", length) || isWord("dead", length)
                || isWord("in", length) || isWord("on", length);
        }

        private boolean isWord(String text, int length) {
            if (length != text.length()) {
                return false;
            }
            for (int i = 0; i < length; i++) {
                if (byteAt(at + i) != text.charAt(i)) {
                    return false;
                }
            }
            return true;
        }
    }

    /** The least costs of the words behind each place of one paragraph, in so many lines. */
    private static final class Breaks {
        private final int[][] least = new int[WORDS + 1][WORDS + 1];
        private int[] lengths;
        private int count;
        private int wide;

        void weigh(int[] wordLengths, int words, int letters) {
            lengths = wordLengths;
            count = words < 0 || words > WORDS ? 0 : words;
            wide = letters;
            for (int lines = 0; lines <= count; lines++) {
                Arrays.fill(least[lines], IMPOSSIBLE);
            }
            least[0][count] = 0;
            for (int lines = 1; lines <= count; lines++) {
                for (int first = 0; first <= count - lines; first++) {
                    weighRest(lines, first);
                }
            }
        }

        int cost(int lines) {
            return lines < 0 || lines > count ? IMPOSSIBLE : least[lines][0];
        }

        /** How many words the first of so many lines takes: the most with which the rest costs least. */
        int wordsTaken(int lines, int first) {
            if (lines < 1 || lines > count || first < 0 || lengths == null) {
                return 0;
            }
            int taken = 0;
            int letters = -1;
            for (int next = first + 1; next <= count && next <= lengths.length; next++) {
                letters += 1 + lengths[next - 1];
                if (letters > wide) {
                    break;
                }
                if (costWith(lines, next, letters) == least[lines][first]) {
                    taken = next - first;
                }
            }
            return taken;
        }

        private void weighRest(int lines, int first) {
            if (lengths == null) {
                return;
            }
            int letters = -1;
            for (int next = first + 1; next <= count && next <= lengths.length; next++) {
                letters += 1 + lengths[next - 1];
                if (letters > wide) {
                    break;
                }
                least[lines][first] = Math.min(least[lines][first], costWith(lines, next, letters));
            }
        }

        /** The cost of so many lines, the first with so many letters and the others from a word on. */
        private int costWith(int lines, int next, int letters) {
            int rest = least[lines - 1][next];
            if (rest >= IMPOSSIBLE || lines == 1) {
                return rest;
            }
            int lack = wide - letters;
            return rest + lack * lack;
        }
    }

    /** The paragraphs as they are now, and the page that they are set on. */
    private static final class Manuscript {
        private static final int MOST_PRICE = 100000;
        private static final int LONGEST_WORD = 20;

        private final int[] cuts = new int[PARAGRAPHS];
        private final int[] wordCounts = new int[PARAGRAPHS];
        private final int[][] words = new int[PARAGRAPHS][WORDS];
        /** Costs by paragraph and lines, held so that many fillings weigh the breaks but once. */
        private final int[][] breakCosts = new int[PARAGRAPHS][WORDS + 1];
        private final boolean[] weighed = new boolean[PARAGRAPHS];
        private final Breaks breaks = new Breaks();
        private int count;
        private int wide = 40;
        private int pageLines = 20;
        private int leadPrice = 50;
        private int widowPrice = 200;

        int addParagraph(int cut) {
            if (cut < NONE || cut > MOST_PRICE || count >= PARAGRAPHS) {
                return NONE;
            }
            cuts[count] = cut;
            wordCounts[count] = 0;
            weighed[count] = false;
            count++;
            return count - 1;
        }

        int addWord(int length) {
            int last = count - 1;
            if (last < 0 || last >= PARAGRAPHS || length < 1 || length > LONGEST_WORD) {
                return NONE;
            }
            int before = wordCounts[last];
            if (before < 0 || before >= WORDS) {
                return NONE;
            }
            words[last][before] = length;
            wordCounts[last] = before + 1;
            weighed[last] = false;
            return before + 1;
        }

        int empty() {
            int before = count;
            count = 0;
            return before;
        }

        boolean shape(int letters, int lines, int lead, int widow) {
            if (letters < 10 || letters > 60 || lines < 5 || lines > 40) {
                return false;
            }
            if (lead < 0 || lead > MOST_PRICE || widow < 0 || widow > MOST_PRICE) {
                return false;
            }
            if (letters != wide) {
                forgetBreakCosts();
            }
            wide = letters;
            pageLines = lines;
            leadPrice = lead;
            widowPrice = widow;
            return true;
        }

        int cutCost(int p) {
            return p < 0 || p >= count || cuts[p] == NONE ? IMPOSSIBLE : cuts[p];
        }

        int wordsOf(int p) {
            return p < 0 || p >= count ? 0 : wordCounts[p];
        }

        void weighBreaks(int p) {
            if (p < 0 || p >= count || weighed[p]) {
                return;
            }
            Breaks found = breaksOf(p);
            for (int n = 0; n <= WORDS; n++) {
                breakCosts[p][n] = found.cost(n);
            }
            weighed[p] = true;
        }

        /** The least cost in so many lines, once the paragraph's breaks have been weighed. */
        int breakCost(int p, int lines) {
            if (p < 0 || p >= count || lines < 0 || lines > WORDS) {
                return IMPOSSIBLE;
            }
            return breakCosts[p][lines];
        }

        /** The breaks of a paragraph, good until the next one is asked for. */
        Breaks breaksOf(int p) {
            if (p >= 0 && p < count) {
                breaks.weigh(words[p], wordCounts[p], wide);
            }
            return breaks;
        }

        int widowCost(int first, int lines) {
            if (lines < 2 || pageLines < 1) {
                return 0;
            }
            int cost = 0;
            if ((first + 1) % pageLines == 0) {
                cost += widowPrice;
            }
            if ((first + lines - 1) % pageLines == 0) {
                cost += widowPrice;
            }
            return cost;
        }

        private void forgetBreakCosts() {
            for (int p = 0; p < PARAGRAPHS; p++) {
                weighed[p] = false;
            }
        }
    }

    /** The search for the setting, and the latest one that was found. */
    private static final class Setting {
        private static final int CUT = 0;
        private static final int LEADS = 1;
        private static final int FIRST_LINE = 2;
        private static final int LINE_COUNT = 3;
        private static final int TOLD = 4;

        /** The least cost from a paragraph on, by the next line, when one before it is not cut. */
        private final int[][] restCost = new int[PARAGRAPHS + 1][LINES + 1];
        /** The least cost from a paragraph on when all before it are cut: no lead may stand there. */
        private final int[] openingCost = new int[PARAGRAPHS + 1];
        private final int[] uncutCost = new int[LINES + 1];
        private final int[][] placed = new int[PARAGRAPHS][TOLD];
        private final int[] lineParagraph = new int[LINES];
        private final int[] lineFirstWord = new int[LINES];
        private final int[] lineWords = new int[LINES];
        private int paragraphCount;
        private int lineCount;

        /** Weighs from the last paragraph back, so that the first one's choice is known to be best. */
        int leastCost(Manuscript manuscript, int length) {
            if (length < 1 || length > LINES) {
                return IMPOSSIBLE;
            }
            int count = manuscript.count;
            Arrays.fill(restCost[count], IMPOSSIBLE);
            restCost[count][length] = 0;
            openingCost[count] = IMPOSSIBLE;
            for (int p = count - 1; p >= 0; p--) {
                manuscript.weighBreaks(p);
                weighFrom(manuscript, p, length);
            }
            return openingCost[0];
        }

        /** Makes the choices again that led to the least cost, as the order of settings asks. */
        void placeAll(Manuscript manuscript, int length) {
            forgetPlaces(manuscript.count, length);
            int line = 0;
            boolean opened = false;
            for (int p = 0; p < paragraphCount; p++) {
                int cost = opened ? restCost[p][line] : openingCost[p];
                int leads = fewestLeads(manuscript, p, line, opened ? MOST_LEADS : 0, cost);
                if (leads == NONE) {
                    note(p, 1, 0, NONE, 0);
                    continue;
                }
                opened = true;
                line += leads;
                int n = fewestLines(manuscript, p, line, cost - leads * manuscript.leadPrice);
                note(p, 0, leads, n == 0 ? NONE : line, n);
                placeLines(manuscript, p, line, n);
                line += n;
            }
        }

        int ofParagraph(int p, int what) {
            if (p < 0 || p >= paragraphCount || what < 0 || what >= TOLD) {
                return NONE;
            }
            return placed[p][what];
        }

        int ofLine(int i, int what) {
            if (i < 0 || i >= lineCount) {
                return NONE;
            }
            switch (what) {
                case 0: return lineParagraph[i];
                case 1: return lineFirstWord[i];
                case 2: return lineWords[i];
                default: return NONE;
            }
        }

        private void weighFrom(Manuscript manuscript, int p, int length) {
            int cut = manuscript.cutCost(p);
            for (int line = 0; line <= length; line++) {
                uncutCost[line] = leastUncut(manuscript, p, line, length);
            }
            for (int line = 0; line <= length; line++) {
                int least = plus(cut, restCost[p + 1][line]);
                for (int leads = 0; leads <= MOST_LEADS && line + leads <= length; leads++) {
                    least = Math.min(least, plus(leads * manuscript.leadPrice, uncutCost[line + leads]));
                }
                restCost[p][line] = least;
            }
            openingCost[p] = Math.min(plus(cut, openingCost[p + 1]), uncutCost[0]);
        }

        /** The least cost from a paragraph on when its own first line is this one. */
        private int leastUncut(Manuscript manuscript, int p, int line, int length) {
            int most = Math.min(manuscript.wordsOf(p), length - line);
            int least = IMPOSSIBLE;
            for (int n = 0; n <= most; n++) {
                least = Math.min(least, costInLines(manuscript, p, line, n));
            }
            return least;
        }

        private int costInLines(Manuscript manuscript, int p, int line, int n) {
            int own = manuscript.breakCost(p, n);
            if (own >= IMPOSSIBLE) {
                return IMPOSSIBLE;
            }
            return plus(own + manuscript.widowCost(line, n), restCost[p + 1][line + n]);
        }

        private void forgetPlaces(int paragraphs, int lines) {
            paragraphCount = paragraphs;
            lineCount = lines;
            Arrays.fill(lineParagraph, NONE);
            Arrays.fill(lineFirstWord, NONE);
            Arrays.fill(lineWords, NONE);
        }

        /** The fewest leads with which the cost is met, or none at all: then it is met by a cut. */
        private int fewestLeads(Manuscript manuscript, int p, int line, int most, int cost) {
            for (int leads = 0; leads <= most && line + leads <= lineCount; leads++) {
                int uncut = leastUncut(manuscript, p, line + leads, lineCount);
                if (plus(leads * manuscript.leadPrice, uncut) == cost) {
                    return leads;
                }
            }
            return NONE;
        }

        private int fewestLines(Manuscript manuscript, int p, int line, int cost) {
            int most = Math.min(manuscript.wordsOf(p), lineCount - line);
            for (int n = 0; n <= most; n++) {
                if (costInLines(manuscript, p, line, n) == cost) {
                    return n;
                }
            }
            return 0;
        }

        private void placeLines(Manuscript manuscript, int p, int first, int n) {
            Breaks breaks = manuscript.breaksOf(p);
            int word = 0;
            for (int i = 0; i < n && first + i < LINES; i++) {
                int taken = breaks.wordsTaken(n - i, word);
                lineParagraph[first + i] = p;
                lineFirstWord[first + i] = word;
                lineWords[first + i] = taken;
                word += taken;
            }
        }

        private void note(int p, int cut, int leads, int first, int lines) {
            placed[p][CUT] = cut;
            placed[p][LEADS] = leads;
            placed[p][FIRST_LINE] = first;
            placed[p][LINE_COUNT] = lines;
        }
    }

    /** Which editions parts have, when parts are due, and when they came; they come in their order. */
    private static final class Parts {
        private static final int PERIOD = 30;
        private static final int LATEST_START = 20000;
        private static final int LATEST_DAY = 30000;

        private final int[] lastEditions = new int[PARTS];
        private final int[] days = new int[PARTS];
        private int comeCount;
        private int startDay;

        boolean haveEdition(int part, int edition) {
            return isPart(part) && edition >= 0 && edition <= lastEditions[part];
        }

        boolean allHaveEdition(int from, int to, int edition) {
            if (!isPart(from) || !isPart(to) || from > to) {
                return false;
            }
            for (int part = from; part <= to; part++) {
                if (!haveEdition(part, edition)) {
                    return false;
                }
            }
            return true;
        }

        int lastEdition(int part) {
            return isPart(part) ? lastEditions[part] : NONE;
        }

        int addEdition(int part) {
            if (!isPart(part) || lastEditions[part] >= EDITIONS - 1) {
                return NONE;
            }
            lastEditions[part]++;
            return lastEditions[part];
        }

        boolean beginOn(int day) {
            if (day < 0 || day > LATEST_START || comeCount > 0) {
                return false;
            }
            startDay = day;
            return true;
        }

        int arrive(int part, int day) {
            if (!isPart(part) || part != comeCount || day < 0 || day > LATEST_DAY) {
                return NONE;
            }
            if (part > 0 && days[part - 1] > day) {
                return NONE;
            }
            days[part] = day;
            comeCount++;
            return daysLate(part);
        }

        boolean hasCome(int part) {
            return isPart(part) && part < comeCount;
        }

        int daysLate(int part) {
            return daysBehind(part, dueDay(part));
        }

        /** Counts up from the first part, as each late one moves all that follow. */
        int dueDay(int part) {
            int day = startDay;
            for (int before = 0; before < part && before < PARTS; before++) {
                int periodsLate = (daysBehind(before, day) + PERIOD - 1) / PERIOD;
                day += PERIOD + PERIOD * periodsLate;
            }
            return day;
        }

        private int daysBehind(int part, int dueOn) {
            return hasCome(part) ? Math.max(0, days[part] - dueOn) : 0;
        }
    }

    /** What one part tells of one person. */
    private static final class Fact {
        private static final int BORN = 0;
        private static final int DEAD = 1;
        private static final int IN_PLACE = 2;

        private long person;
        private int kind;
        private long place;
        private int day;
        private int part;
        private int edition;
        private int struckFrom = NONE;

        void readFrom(Tape tape) {
            tape.open();
            person = tape.readName();
            place = 0;
            if (tape.passWord("born")) {
                kind = BORN;
            } else if (tape.passWord("dead")) {
                kind = DEAD;
            } else {
                kind = IN_PLACE;
                tape.needWord("in");
                place = tape.readName();
                tape.needWord("on");
            }
            day = tape.readNumber(0, 99999);
            tape.needSign(';');
            tape.needEnd();
        }

        boolean standsIn(int which) {
            return edition <= which && (struckFrom == NONE || which < struckFrom);
        }

        int quarrelWith(Fact other) {
            if (other == null || person != other.person) {
                return 0;
            }
            if (kind > other.kind) {
                return other.quarrelWithLater(this);
            }
            return quarrelWithLater(other);
        }

        /** Looks at each pair of kinds but once: the other's kind is not ahead of this one's. */
        private int quarrelWithLater(Fact other) {
            if (kind == IN_PLACE) {
                return day == other.day && place != other.place ? 2 : 0;
            }
            if (kind == other.kind) {
                return day != other.day ? 1 : 0;
            }
            if (other.kind == DEAD) {
                return other.day < day ? 4 : 0;
            }
            boolean outOfLife = kind == BORN ? other.day < day : other.day > day;
            return outOfLife ? 3 : 0;
        }
    }

    /** All facts that were told, and the quarrels that were found last. */
    private static final class Facts {
        private static final int ROOM = 60;

        private final Fact[] facts = new Fact[ROOM];
        private final int[] lesserFound = new int[ROOM * (ROOM - 1) / 2];
        private final int[] otherFound = new int[ROOM * (ROOM - 1) / 2];
        private Fact draft = new Fact();
        private int count;
        private int foundCount;

        boolean readDraft(Tape tape) {
            draft.readFrom(tape);
            return !tape.failed();
        }

        int addDraft(int part, int edition) {
            if (count >= ROOM) {
                return SECOND_REFUSAL;
            }
            draft.part = part;
            draft.edition = edition;
            facts[count] = draft;
            draft = new Fact();
            count++;
            return count - 1;
        }

        boolean strikeFrom(int number, int edition, Parts parts) {
            Fact told = numbered(number);
            if (told == null || told.struckFrom != NONE) {
                return false;
            }
            if (!parts.haveEdition(told.part, edition) || edition <= told.edition) {
                return false;
            }
            told.struckFrom = edition;
            return true;
        }

        int quarrelOf(int a, int b) {
            Fact one = numbered(a);
            Fact other = numbered(b);
            if (one == null || other == null || a == b) {
                return NONE;
            }
            return one.quarrelWith(other);
        }

        int findQuarrels(int edition, Parts parts) {
            foundCount = 0;
            for (int a = 0; a < count; a++) {
                if (stands(a, edition, parts)) {
                    findQuarrelsOf(a, edition, parts);
                }
            }
            return foundCount;
        }

        int foundPair(int k, int what) {
            if (k < 0 || k >= foundCount) {
                return NONE;
            }
            if (what == 0) {
                return lesserFound[k];
            }
            return what == 1 ? otherFound[k] : NONE;
        }

        private void findQuarrelsOf(int a, int edition, Parts parts) {
            for (int b = a + 1; b < count; b++) {
                if (quarrelOf(a, b) > 0 && stands(b, edition, parts) && foundCount < lesserFound.length) {
                    lesserFound[foundCount] = a;
                    otherFound[foundCount] = b;
                    foundCount++;
                }
            }
        }

        private boolean stands(int number, int edition, Parts parts) {
            Fact told = numbered(number);
            return told != null && told.standsIn(Math.min(edition, parts.lastEdition(told.part)));
        }

        private Fact numbered(int number) {
            return number < 0 || number >= count ? null : facts[number];
        }
    }

    /** What an author gets of each copy, and what a late day costs. */
    private static final class Agreement {
        private static final int STEPS = 5;

        private final int[] percents = new int[STEPS];
        private final int[] upTo = new int[STEPS];
        private int steps;
        private int late;
        private int fromPart;

        void readFrom(Tape tape) {
            tape.open();
            int before = 0;
            for (int step = 0; step < STEPS && !tape.failed(); step++) {
                steps = step + 1;
                percents[step] = tape.readNumber(0, 100);
                tape.needWord("percent");
                if (tape.passWord("late")) {
                    late = tape.readNumber(0, 9999);
                    tape.needSign(';');
                    tape.needEnd();
                    return;
                }
                tape.needWord("to");
                upTo[step] = tape.readNumber(before + 1, 99999);
                before = upTo[step];
                tape.needSign(',');
            }
            tape.failNext();
        }

        /** The percents of all copies from the first one on, added up. */
        long percentsOf(long copies) {
            long sum = 0;
            long passed = 0;
            for (int step = 0; step < steps && step < STEPS; step++) {
                boolean takesAll = step == steps - 1;
                long end = takesAll ? copies : Math.min(copies, upTo[step]);
                sum += (end - passed) * percents[step];
                passed = end;
            }
            return sum;
        }
    }

    /** All agreements, in the order in which they were told. */
    private static final class Agreements {
        private static final int ROOM = 12;

        private final Agreement[] agreements = new Agreement[ROOM];
        private Agreement draft = new Agreement();
        private int count;

        boolean readDraft(Tape tape) {
            draft.readFrom(tape);
            return !tape.failed();
        }

        int addDraft(int part) {
            if (count >= ROOM) {
                return SECOND_REFUSAL;
            }
            draft.fromPart = part;
            agreements[count] = draft;
            draft = new Agreement();
            count++;
            return count - 1;
        }

        int latestFor(int part) {
            for (int number = count - 1; number >= 0; number--) {
                Agreement told = numbered(number);
                if (told != null && told.fromPart <= part) {
                    return number;
                }
            }
            return NONE;
        }

        Agreement numbered(int number) {
            return number < 0 || number >= count ? null : agreements[number];
        }
    }

    /** The copies of all editions, the prices, and the money; a slot is one edition of a part. */
    private static final class Shelf {
        private static final int SLOTS = PARTS * EDITIONS;
        private static final int MOST_PRICE = 10000;

        private final int[] printed = new int[SLOTS];
        private final int[] sold = new int[SLOTS];
        private final int[] pulped = new int[SLOTS];
        private final int[] bound = new int[SLOTS];
        private final boolean[] platesKept = new boolean[SLOTS];
        private int price = 10;
        private int paperPrice = 2;
        private int platesPrice = 500;
        private int pulpPrice;
        private long money;

        boolean changePrices(int copy, int paper, int plates, int waste) {
            if (copy < 0 || copy > MOST_PRICE || paper < 0 || paper > MOST_PRICE) {
                return false;
            }
            if (plates < 0 || plates > MOST_PRICE || waste < 0 || waste > paper) {
                return false;
            }
            price = copy;
            paperPrice = paper;
            platesPrice = plates;
            pulpPrice = waste;
            return true;
        }

        boolean keepPlates(int slot, boolean kept) {
            if (!isSlot(slot) || printed[slot] == 0) {
                return false;
            }
            platesKept[slot] = kept;
            return true;
        }

        /** What printing so many copies would cost; nothing is printed of 0 copies. */
        int printingCost(int slot, int copies) {
            if (!isSlot(slot) || copies == 0) {
                return 0;
            }
            return paperPrice * copies + (platesKept[slot] ? 0 : platesPrice);
        }

        int addPrinted(int slot, int copies) {
            if (!isSlot(slot)) {
                return NONE;
            }
            int cost = printingCost(slot, copies);
            printed[slot] += copies;
            money -= cost;
            return cost;
        }

        int takeSold(int slot, int copies) {
            if (!isSlot(slot) || copies < 1 || copies > left(slot)) {
                return NONE;
            }
            sold[slot] += copies;
            money += (long) copies * price;
            return left(slot);
        }

        int takePulped(int slot) {
            if (!isSlot(slot)) {
                return NONE;
            }
            int copies = left(slot);
            pulped[slot] += copies;
            money += (long) copies * pulpPrice;
            return copies;
        }

        int countOf(int slot, int what) {
            if (!isSlot(slot)) {
                return NONE;
            }
            switch (what) {
                case 0: return printed[slot];
                case 1: return sold[slot];
                case 2: return pulped[slot];
                case 3: return bound[slot];
                case 4: return left(slot);
                case 5: return platesKept[slot] ? 1 : 0;
                default: return NONE;
            }
        }

        long soldOfPart(int part) {
            long copies = 0;
            for (int edition = 0; edition < EDITIONS; edition++) {
                int slot = slot(part, edition);
                copies += isSlot(slot) ? sold[slot] : 0;
            }
            return copies;
        }

        int leastLeft(int from, int to, int edition) {
            int least = Integer.MAX_VALUE;
            for (int part = from; part <= to && part < PARTS; part++) {
                least = Math.min(least, left(slot(part, edition)));
            }
            return least;
        }

        void bind(int from, int to, int edition, int volumes) {
            for (int part = from; part <= to && part < PARTS; part++) {
                int slot = slot(part, edition);
                if (isSlot(slot)) {
                    bound[slot] += volumes;
                }
            }
        }

        private int left(int slot) {
            return isSlot(slot) ? printed[slot] - sold[slot] - pulped[slot] - bound[slot] : 0;
        }

        private static boolean isSlot(int slot) {
            return slot >= 0 && slot < SLOTS;
        }
    }

    /** The sales that are foretold, and what copies are worth by them. */
    private static final class Foretelling {
        private static final int ROOM = 8;
        private static final int MOST_LOTS = 99;

        private final int[] sales = new int[ROOM];
        private final int[] rowLots = new int[ROOM];
        private int count;

        int addRow(int sale, int lots) {
            if (sale == NONE) {
                count = 0;
                return 0;
            }
            if (sale < 0 || sale > MOST_COPIES || lots < 1 || lots > MOST_LOTS || count >= ROOM) {
                return NONE;
            }
            sales[count] = sale;
            rowLots[count] = lots;
            count++;
            return count;
        }

        long worthOf(Shelf shelf, int slot, int copies) {
            long taken = 0;
            long allLots = 0;
            for (int row = 0; row < count; row++) {
                int sold = Math.min(copies, sales[row]);
                long forCopies = (long) shelf.price * sold + (long) shelf.pulpPrice * (copies - sold);
                taken += rowLots[row] * forCopies;
                allLots += rowLots[row];
            }
            return taken - allLots * shelf.printingCost(slot, copies);
        }

        int bestCopies(Shelf shelf, int slot) {
            int best = 0;
            long most = worthOf(shelf, slot, 0);
            for (int row = 0; row < count; row++) {
                long worth = worthOf(shelf, slot, sales[row]);
                if (worth > most || (worth == most && sales[row] < best)) {
                    best = sales[row];
                    most = worth;
                }
            }
            return best;
        }
    }
}
