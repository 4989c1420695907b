/**
 * A text index that lives: documents come into a buffer, the buffer becomes a segment, segments are
 * merged, and readers keep views that stay as they were. ../shared/DOC.md says what each call answers.
 */
public final class LiveIndex {
    public static final int NONE = -1, BAD = -2, STATE = -3, FULL = -4, DEAR = -6;

    private static final int NOTHING = -11, OUTSIDE = -12, UNLIKE = -13, BELOW_ZERO = -14;
    /** A fault at place p is answered as FAULTS - p. */
    private static final int FAULTS = -100;

    private static final int KEYS = 100, BUFFER_DOCS = 4, SEGMENTS = 8, ALL_DOCS = 64;
    private static final int TAPE_BYTES = 64, DOC_WORDS = 12, WORD_LETTERS = 6;
    private static final int QUERIES = 6, PHRASE_WORDS = 6, OPEN_PARTS = 4, NEAR_PLACES = 3;
    private static final int VIEWS = 4, SHEETS = 4, SHEET_ITEMS = 40, LOG_LOOKS = 8;
    private static final int KINDS = 6, MOST_NUMBER = 9, MOST_LIMIT = 9999, MOST_WORTH = 999;

    /** Words are numbers of six digits to the base 27 (a 1, behind a short word 0): their order is that of letters. */
    private static final int BASE = 27;
    /** How many such numbers begin with the same 0, 1, .. 6 letters. */
    private static final int[] SPANS = {387420489, 14348907, 531441, 19683, 729, 27, 1};

    private final Tape tape = new Tape();
    private final Doc[] buffer = new Doc[BUFFER_DOCS];
    private int buffered;
    private final Stand now = new Stand();
    private final Stand written = new Stand();
    private final Stand committed = new Stand();
    private final Stand[] views = new Stand[VIEWS];
    /** Whoever may hold segments: now, the commit, what is written, the views. */
    private final Stand[] holders = new Stand[3 + VIEWS];
    /** How many segments were ever made: the last one's name. */
    private int names;
    private final Policy policy = new Policy();
    private final Merge merge = new Merge();
    private int limit = MOST_LIMIT;
    private final Query[] queries = new Query[QUERIES];
    private int asked;
    private final QueryReader reader = new QueryReader(tape);
    private final Looks looks = new Looks();
    private final Sheet[] sheets = new Sheet[SHEETS];
    // rows that calls use again, so that no call makes its own
    private final Hits hits = new Hits();
    private final Hits otherHits = new Hits();
    private final int[] leastCosts = new int[SEGMENTS * SEGMENTS];

    public LiveIndex() {
        now.there = true;
        committed.there = true;
        holders[0] = now;
        holders[1] = committed;
        holders[2] = written;
        for (int i = 0; i < VIEWS; i++) {
            views[i] = new Stand();
            holders[3 + i] = views[i];
        }
        for (int i = 0; i < QUERIES; i++) {
            queries[i] = new Query();
        }
        for (int i = 0; i < SHEETS; i++) {
            sheets[i] = new Sheet();
        }
    }

    // ---- documents

    public int feed(int n, int a, int b, int c, int d, int e) {
        if (n < 1 || n > 5) {
            return BAD;
        }
        if (!isByte(a) || !isByte(b) || !isByte(c) || !isByte(d) || !isByte(e)) {
            return BAD;
        }
        if (tape.size + n > TAPE_BYTES) {
            return FULL;
        }
        tape.append(a);
        if (n > 1) {
            tape.append(b);
        }
        if (n > 2) {
            tape.append(c);
        }
        if (n > 3) {
            tape.append(d);
        }
        if (n > 4) {
            tape.append(e);
        }
        return tape.size;
    }

    public int add(int key) {
        if (!isKey(key)) {
            return BAD;
        }
        if (buffered >= BUFFER_DOCS && placeInBuffer(key) == NONE) {
            return FULL;
        }
        int fault = tape.readDocument();
        tape.size = 0;
        if (fault != NONE) {
            return FAULTS - fault;
        }
        dropLive(key);
        Doc added = new Doc(key, tape.wordsRead());
        buffer[buffered] = added;
        buffered++;
        return added.words.length;
    }

    public int drop(int key) {
        return isKey(key) ? dropLive(key) : BAD;
    }

    public int dropBy(int query) {
        if (!isQuery(query)) {
            return BAD;
        }
        hits.search(queries[query], now);
        for (int s = 0; s < now.size; s++) {
            now.dropped[s] |= hits.marks[s];
        }
        return hits.size;
    }

    public int flush() {
        if (buffered == 0) {
            return STATE;
        }
        if (now.size >= SEGMENTS || now.allDocs() + buffered > ALL_DOCS) {
            return FULL;
        }
        Doc[] docs = new Doc[buffered];
        for (int i = 0; i < buffered; i++) {
            docs[i] = buffer[i];
        }
        buffered = 0;
        names++;
        now.append(new Segment(names, docs));
        return names;
    }

    public int where(int key) {
        if (!isKey(key)) {
            return BAD;
        }
        int place = placeInBuffer(key);
        return place != NONE ? 1000 + place : placeInSegments(key);
    }

    private static boolean isByte(int v) {
        return v >= 0 && v <= 255;
    }

    private static boolean isKey(int key) {
        return key >= 0 && key < KEYS;
    }

    private int placeInBuffer(int key) {
        for (int i = 0; i < buffered; i++) {
            if (buffer[i].key == key) {
                return i;
            }
        }
        return NONE;
    }

    /** 100 * segment + place of who is live with this key in a segment. */
    private int placeInSegments(int key) {
        for (int s = 0; s < now.size; s++) {
            Doc[] docs = now.segments[s].docs;
            for (int i = 0; i < docs.length; i++) {
                if (docs[i].key == key && !now.isDropped(s, i)) {
                    return 100 * s + i;
                }
            }
        }
        return NONE;
    }

    private int dropLive(int key) {
        int place = placeInBuffer(key);
        if (place != NONE) {
            buffered--;
            for (int i = place; i < buffered; i++) {
                buffer[i] = buffer[i + 1];
            }
            return 0;
        }
        int at = placeInSegments(key);
        if (at == NONE) {
            return NONE;
        }
        now.dropped[at / 100] |= 1L << (at % 100);
        return 1;
    }

    // ---- segments

    public int told(int segment, int what) {
        if (!isSegment(segment)) {
            return BAD;
        }
        Segment told = now.segments[segment];
        switch (what) {
            case 0:
                return told.docs.length;
            case 1:
                return now.liveIn(segment);
            case 2:
                return told.wordCount;
            case 3:
                return told.allPostings;
            case 4:
                return policy.sizeOf(now, segment);
            case 5:
                return policy.tierOf(now, segment);
            case 6:
                return told.name;
            case 7:
                return viewsWith(told.name);
            case 8:
                return committed.hasName(told.name) ? 1 : 0;
            default:
                return BAD;
        }
    }

    public int doc(int segment, int place, int what) {
        if (!isSegment(segment) || what < 0 || what > 2) {
            return BAD;
        }
        Doc[] docs = now.segments[segment].docs;
        if (place < 0 || place >= docs.length) {
            return OUTSIDE;
        }
        if (what == 0) {
            return docs[place].key;
        }
        if (what == 1) {
            return now.isDropped(segment, place) ? 1 : 0;
        }
        return docs[place].words.length;
    }

    public int word(int segment, int k, int what) {
        if (!isSegment(segment) || what < 0 || what > 2) {
            return BAD;
        }
        Segment told = now.segments[segment];
        if (k < 0 || k >= told.wordCount) {
            return OUTSIDE;
        }
        if (what == 0) {
            return Tape.lettersAlone(told.words[k]);
        }
        return what == 1 ? told.postings[k] : told.placeSums[k];
    }

    public int set(int what, int v) {
        if (v < 0) {
            return BAD;
        }
        int was;
        if (what == 0 && v < KINDS) {
            was = policy.kind;
            policy.kind = v;
        } else if (what == 1 && v <= MOST_NUMBER) {
            was = policy.number;
            policy.number = v;
        } else if (what == 2 && v <= MOST_LIMIT) {
            was = limit;
            limit = v;
        } else {
            was = BAD;
        }
        return was;
    }

    public int taken(int k) {
        if (k < 0 || k >= KINDS) {
            return BAD;
        }
        return policy.isUnder(k) ? policy.number : UNLIKE;
    }

    public int choice(int what) {
        if (what < 0 || what > 2) {
            return BAD;
        }
        int first = policy.choose(now);
        if (what == 0) {
            return first;
        }
        if (first == NONE) {
            return 0;
        }
        return what == 1 ? policy.width() : now.liveBetween(first, first + policy.width());
    }

    public int begin() {
        if (merge.begun) {
            return STATE;
        }
        int first = policy.choose(now);
        if (first == NONE) {
            return NONE;
        }
        merge.start(now, first, policy.width());
        return now.liveBetween(first, first + merge.width);
    }

    public int finish() {
        if (!merge.begun) {
            return STATE;
        }
        merge.begun = false;
        int coming = merge.howManyCome(now);
        if (coming == 0) {
            now.remove(merge.first, merge.width);
            return 0;
        }
        Doc[] docs = new Doc[coming];
        long dropped = merge.bring(now, docs);
        names++;
        now.remove(merge.first, merge.width - 1);
        now.segments[merge.first] = new Segment(names, docs);
        now.dropped[merge.first] = dropped;
        return names;
    }

    public int leave() {
        if (!merge.begun) {
            return STATE;
        }
        merge.begun = false;
        return 1;
    }

    public int cheapest(int what) {
        if (what < 0 || what > 1) {
            return BAD;
        }
        int n = now.size;
        if (n < 2) {
            return what == 0 ? 0 : NONE;
        }
        for (int from = n - 1; from >= 0; from--) {
            leastCosts[from * SEGMENTS + from] = 0;
            for (int to = from + 1; to < n; to++) {
                int split = leastSplit(from, to);
                leastCosts[from * SEGMENTS + to] = splitCost(from, split, to) + now.liveBetween(from, to + 1);
            }
        }
        return what == 0 ? leastCosts[n - 1] : leastSplit(0, n - 1);
    }

    private boolean isSegment(int segment) {
        return segment >= 0 && segment < now.size;
    }

    private int viewsWith(int name) {
        int sum = 0;
        for (int i = 0; i < VIEWS; i++) {
            if (views[i].there && views[i].hasName(name)) {
                sum++;
            }
        }
        return sum;
    }

    /** What it costs to make one of from .. split - 1 and one of split .. to. */
    private int splitCost(int from, int split, int to) {
        return leastCosts[from * SEGMENTS + split - 1] + leastCosts[split * SEGMENTS + to];
    }

    /** The first segment of the second part, where parting from .. to costs least; of like ones the first. */
    private int leastSplit(int from, int to) {
        int best = from + 1;
        for (int split = from + 2; split <= to; split++) {
            if (splitCost(from, split, to) < splitCost(from, best, to)) {
                best = split;
            }
        }
        return best;
    }

    // ---- commits

    public int write() {
        written.become(now);
        written.there = true;
        return written.size;
    }

    public int commit() {
        if (!written.there) {
            return STATE;
        }
        committed.become(written);
        written.there = false;
        return committed.size;
    }

    public int crash() {
        now.become(committed);
        buffered = 0;
        written.there = false;
        merge.begun = false;
        for (int i = 0; i < VIEWS; i++) {
            views[i].there = false;
        }
        return now.size;
    }

    // ---- queries, views

    public int query() {
        if (asked >= QUERIES) {
            return FULL;
        }
        int fault = reader.read(queries[asked]);
        tape.size = 0;
        if (fault != NONE) {
            return FAULTS - fault;
        }
        asked++;
        return asked - 1;
    }

    public int open(int view) {
        if (!isView(view)) {
            return BAD;
        }
        if (views[view].there) {
            return STATE;
        }
        views[view].become(now);
        views[view].there = true;
        return now.liveBetween(0, now.size);
    }

    public int shut(int view) {
        if (!isView(view)) {
            return BAD;
        }
        if (!views[view].there) {
            return STATE;
        }
        views[view].there = false;
        return heldSegments();
    }

    public int found(int view, int query, int what) {
        if (!isView(view) || !isQuery(query) || !Hits.isAnswer(what)) {
            return BAD;
        }
        if (!views[view].there) {
            return STATE;
        }
        return answer(queries[query], views[view], what);
    }

    public int look(int query, int what) {
        if (!isQuery(query) || !Hits.isAnswer(what)) {
            return BAD;
        }
        int look = looks.start();
        int answer = isDear(query) ? DEAR : answer(queries[query], now, what);
        looks.end(look);
        return answer;
    }

    public int both(int one, int other, int what) {
        if (!isQuery(one) || !isQuery(other) || what < 0 || what > 1) {
            return BAD;
        }
        int look = looks.start();
        int answer = DEAR;
        if (!isDear(one)) {
            hits.search(queries[one], now);
            answer = foundByOther(other, what);
        }
        looks.end(look);
        return answer;
    }

    public int silence(int query, int n) {
        if (!isQuery(query) || n < 0 || n > 999) {
            return BAD;
        }
        hits.search(queries[query], now);
        int left = hits.total;
        int drops = 0;
        // the greatest stand first: dropping them in order takes the fewest
        while (left > n && drops < hits.size) {
            left -= hits.worths[drops];
            drops++;
        }
        return drops;
    }

    public int tells(int sheet, int view, int query, int what) {
        if (!isSheet(sheet) || !isView(view) || !isQuery(query) || what < 0 || what > 2) {
            return BAD;
        }
        if (!views[view].there) {
            return STATE;
        }
        if (sheets[sheet].isMissing()) {
            return NOTHING;
        }
        if (what == 0) {
            return firstOtherwise(sheet, view, query);
        }
        return what == 1 ? queriesToldBy(sheet, view) : viewsToldBy(sheet, query);
    }

    public int film(int sheet, int view, int query) {
        if (!isSheet(sheet) || !isView(view) || !isQuery(query)) {
            return BAD;
        }
        if (!views[view].there) {
            return STATE;
        }
        hits.search(queries[query], views[view]);
        int n = Math.min(hits.size, SHEET_ITEMS);
        sheets[sheet].become(Sheet.BYTES, n);
        for (int i = 0; i < n; i++) {
            sheets[sheet].put(i, hits.keys[i]);
        }
        return n;
    }

    public int count(int what) {
        switch (what) {
            case 0:
                return buffered + now.liveBetween(0, now.size);
            case 1:
                return buffered;
            case 2:
                return now.size;
            case 3:
                return heldSegments();
            case 4:
                return committed.size;
            case 5:
                return openViews();
            case 6:
                return asked;
            case 7:
                return tape.size;
            case 8:
                return merge.begun ? 1 : 0;
            case 9:
                return looks.ever;
            default:
                return what >= 10 && what < 10 + LOG_LOOKS ? looks.ended(what - 10) : BAD;
        }
    }

    private boolean isQuery(int query) {
        return query >= 0 && query < asked;
    }

    private static boolean isView(int view) {
        return view >= 0 && view < VIEWS;
    }

    private boolean isDear(int query) {
        return queries[query].costIn(now) > limit;
    }

    private int answer(Query query, Stand stand, int what) {
        if (what == 1) {
            return query.costIn(stand);
        }
        hits.search(query, stand);
        return hits.answer(what);
    }

    /** Behind the first look's question, whose hits are known: the second look, opened and shut here. */
    private int foundByOther(int other, int what) {
        int look = looks.start();
        int answer = DEAR;
        if (!isDear(other)) {
            otherHits.search(queries[other], now);
            answer = what == 0 ? hits.alsoIn(otherHits) : hits.size - hits.alsoIn(otherHits);
        }
        looks.end(look);
        return answer;
    }

    private int firstOtherwise(int sheet, int view, int query) {
        hits.search(queries[query], views[view]);
        return sheets[sheet].firstOtherwise(hits.keys, hits.size);
    }

    private int queriesToldBy(int sheet, int view) {
        int bits = 0;
        for (int q = 0; q < asked; q++) {
            if (firstOtherwise(sheet, view, q) == NONE) {
                bits |= 1 << q;
            }
        }
        return bits;
    }

    private int viewsToldBy(int sheet, int query) {
        int bits = 0;
        for (int v = 0; v < VIEWS; v++) {
            if (views[v].there && firstOtherwise(sheet, v, query) == NONE) {
                bits |= 1 << v;
            }
        }
        return bits;
    }

    private int openViews() {
        int sum = 0;
        for (int i = 0; i < VIEWS; i++) {
            if (views[i].there) {
                sum++;
            }
        }
        return sum;
    }

    private int heldSegments() {
        int sum = 0;
        for (int h = 0; h < holders.length; h++) {
            Stand holder = holders[h];
            for (int i = 0; holder.there && i < holder.size; i++) {
                if (!isHeldBefore(h, holder.segments[i].name)) {
                    sum++;
                }
            }
        }
        return sum;
    }

    private boolean isHeldBefore(int holder, int name) {
        for (int h = 0; h < holder; h++) {
            if (holders[h].there && holders[h].hasName(name)) {
                return true;
            }
        }
        return false;
    }

    // ---- the host

    public int sheet(int sheet, int sort, int n) {
        if (!isSheet(sheet) || sort < Sheet.MISSING || sort > Sheet.INTS) {
            return BAD;
        }
        if (sort == Sheet.MISSING) {
            sheets[sheet].become(Sheet.MISSING, 0);
            return 1;
        }
        if (n > SHEET_ITEMS) {
            return BAD;
        }
        if (n < 0) {
            return BELOW_ZERO;
        }
        sheets[sheet].become(sort, n);
        return 1;
    }

    public int cell(int sheet, int i, int v) {
        if (!isSheet(sheet)) {
            return BAD;
        }
        if (sheets[sheet].isMissing()) {
            return NOTHING;
        }
        if (!sheets[sheet].hasItems(i, 1)) {
            return OUTSIDE;
        }
        sheets[sheet].put(i, v);
        return 1;
    }

    public int copy(int sheet, int i, int other, int j, int n) {
        if (!isSheet(sheet) || !isSheet(other)) {
            return BAD;
        }
        Sheet from = sheets[sheet];
        Sheet to = sheets[other];
        if (from.isMissing() || to.isMissing()) {
            return NOTHING;
        }
        if (from.sort != to.sort) {
            return UNLIKE;
        }
        if (!from.hasItems(i, n) || !to.hasItems(j, n)) {
            return OUTSIDE;
        }
        System.arraycopy(from.items, i, to.items, j, n);
        return n;
    }

    private static boolean isSheet(int sheet) {
        return sheet >= 0 && sheet < SHEETS;
    }

    /** The bytes that were fed, and how words are read from them. */
    private static final class Tape {
        final int[] bytes = new int[TAPE_BYTES];
        int size;
        private final int[] words = new int[DOC_WORDS];
        private int wordCount;

        void append(int v) {
            if (size < TAPE_BYTES) {
                bytes[size] = v;
                size++;
            }
        }

        /** Reads the whole tape as a document's words: the place of its fault, or NONE. */
        int readDocument() {
            wordCount = 0;
            int at = behindBlanks(0);
            while (at < size && wordCount < DOC_WORDS) {
                int end = wordEnd(at);
                if (end == at || end - at > WORD_LETTERS) {
                    return at;
                }
                words[wordCount] = wordBetween(at, end);
                wordCount++;
                at = behindBlanks(end);
            }
            // what is left behind the last word that fits can't stand there
            return wordCount == 0 || at < size ? at : NONE;
        }

        int[] wordsRead() {
            int[] row = new int[wordCount];
            System.arraycopy(words, 0, row, 0, wordCount);
            return row;
        }

        int behindBlanks(int from) {
            int at = from;
            while (at < size && (bytes[at] == 32 || bytes[at] == 10)) {
                at++;
            }
            return at;
        }

        int wordEnd(int from) {
            int at = from;
            while (at < size && bytes[at] >= 'a' && bytes[at] <= 'z') {
                at++;
            }
            return at;
        }

        int wordBetween(int from, int to) {
            int number = 0;
            for (int i = 0; i < WORD_LETTERS; i++) {
                number = number * BASE + (from + i < to ? bytes[from + i] - 'a' + 1 : 0);
            }
            return number;
        }

        /** A word's number without the 0 digits behind its letters. */
        static int lettersAlone(int word) {
            int number = word;
            for (int i = 1; i < WORD_LETTERS && number % BASE == 0; i++) {
                number /= BASE;
            }
            return number;
        }
    }

    /** A document: never changed, so that segments, views and commits may share it. */
    private static final class Doc {
        final int key;
        final int[] words;

        Doc(int key, int[] words) {
            this.key = key;
            this.words = words;
        }

        boolean hasBefore(int place) {
            for (int i = 0; i < place; i++) {
                if (words[i] == words[place]) {
                    return true;
                }
            }
            return false;
        }
    }

    /** Documents and their dictionary: never changed; who is dropped is told by the Stand that it stands in. */
    private static final class Segment {
        final int name;
        final Doc[] docs;
        final int[] words;
        final int[] postings;
        final int[] placeSums;
        int wordCount;
        int allPostings;

        Segment(int name, Doc[] docs) {
            this.name = name;
            this.docs = docs;
            int room = 0;
            for (int i = 0; i < docs.length; i++) {
                room += docs[i].words.length;
            }
            words = new int[room];
            postings = new int[room];
            placeSums = new int[room];
            for (int i = 0; i < docs.length; i++) {
                for (int j = 0; j < docs[i].words.length; j++) {
                    if (!docs[i].hasBefore(j)) {
                        notePosting(docs[i].words[j], i);
                    }
                }
            }
        }

        private void notePosting(int word, int place) {
            int at = firstNotBelow(word);
            if (at == wordCount || words[at] != word) {
                int behind = wordCount - at;
                System.arraycopy(words, at, words, at + 1, behind);
                System.arraycopy(postings, at, postings, at + 1, behind);
                System.arraycopy(placeSums, at, placeSums, at + 1, behind);
                words[at] = word;
                postings[at] = 0;
                placeSums[at] = 0;
                wordCount++;
            }
            postings[at]++;
            placeSums[at] += place;
            allPostings++;
        }

        private int firstNotBelow(int word) {
            int low = 0;
            int high = wordCount;
            while (low < high) {
                int middle = (low + high) / 2;
                if (words[middle] < word) {
                    low = middle + 1;
                } else {
                    high = middle;
                }
            }
            return low;
        }

        /** Postings of all words from low on that are below high. */
        int postingsBetween(int low, int high) {
            int sum = 0;
            for (int at = firstNotBelow(low); at < wordCount && words[at] < high; at++) {
                sum += postings[at];
            }
            return sum;
        }

        int postingsOf(int word) {
            return postingsBetween(word, word + 1);
        }
    }

    /** Segments in order and who of them is dropped: as it is now, or as it was for a view, a write, a commit. */
    private static final class Stand {
        final Segment[] segments = new Segment[SEGMENTS];
        /** Bit i of item s: the document at place i of segment s is dropped. */
        final long[] dropped = new long[SEGMENTS];
        int size;
        /** Whether the view is open, whether something is written; what is now and the commit always are. */
        boolean there;

        void become(Stand other) {
            size = other.size;
            for (int i = 0; i < size; i++) {
                segments[i] = other.segments[i];
                dropped[i] = other.dropped[i];
            }
        }

        void append(Segment last) {
            if (size < SEGMENTS) {
                segments[size] = last;
                dropped[size] = 0L;
                size++;
            }
        }

        void remove(int first, int n) {
            size -= n;
            for (int i = first; i < size; i++) {
                segments[i] = segments[i + n];
                dropped[i] = dropped[i + n];
            }
        }

        boolean isDropped(int segment, int place) {
            return (dropped[segment] >>> place & 1L) != 0L;
        }

        int liveIn(int segment) {
            return segments[segment].docs.length - Long.bitCount(dropped[segment]);
        }

        int liveBetween(int from, int to) {
            int sum = 0;
            for (int i = from; i < to; i++) {
                sum += liveIn(i);
            }
            return sum;
        }

        int allDocs() {
            int sum = 0;
            for (int i = 0; i < size; i++) {
                sum += segments[i].docs.length;
            }
            return sum;
        }

        boolean hasName(int name) {
            for (int i = 0; i < size; i++) {
                if (segments[i].name == name) {
                    return true;
                }
            }
            return false;
        }
    }

    /** Which neighbouring segments are to be merged. */
    private static final class Policy {
        static final int PAIRS = 1, DENSE = 2, EAGER = 3, SPARSE = 4, NEVER = 5;
        /** The kind that each kind is under; TIERED (0) is under none. */
        static final int[] UNDER = {NONE, 0, 0, PAIRS, DENSE, 0};
        static final int TOP_TIER = 3;

        int kind;
        int number;

        boolean isUnder(int k) {
            int at = kind;
            for (int i = 0; i < KINDS && at != NONE; i++) {
                if (at == k) {
                    return true;
                }
                at = UNDER[at];
            }
            return false;
        }

        int sizeOf(Stand stand, int segment) {
            switch (kind) {
                case DENSE:
                    return stand.liveIn(segment);
                case SPARSE:
                    return Math.max(0, stand.liveIn(segment) - number);
                default:
                    return stand.segments[segment].docs.length;
            }
        }

        int tierOf(Stand stand, int segment) {
            int size = sizeOf(stand, segment);
            if (size <= 2) {
                return 0;
            }
            if (size <= 6) {
                return 1;
            }
            return size <= 14 ? 2 : TOP_TIER;
        }

        int width() {
            switch (kind) {
                case PAIRS:
                case EAGER:
                case SPARSE:
                    return 2;
                case NEVER:
                    return 9;
                default:
                    return 3;
            }
        }

        /** The first of the segments that are chosen, or NONE. */
        int choose(Stand stand) {
            int best = NONE;
            int bestTier = TOP_TIER + 1;
            for (int first = 0; first + width() <= stand.size; first++) {
                int tier = tierOf(stand, first);
                if (tier < bestTier && isFit(stand, first)) {
                    best = first;
                    bestTier = tier;
                }
            }
            return best;
        }

        private boolean isFit(Stand stand, int first) {
            switch (kind) {
                case EAGER:
                    return areOfOneTier(stand, first) || areSmallTogether(stand, first);
                case SPARSE:
                    return areOfOneTier(stand, first) && hasDropped(stand, first);
                default:
                    return areOfOneTier(stand, first);
            }
        }

        private boolean areOfOneTier(Stand stand, int first) {
            int tier = tierOf(stand, first);
            for (int i = first + 1; i < first + width(); i++) {
                if (tierOf(stand, i) != tier) {
                    return false;
                }
            }
            return tier < TOP_TIER;
        }

        private boolean areSmallTogether(Stand stand, int first) {
            int sum = 0;
            for (int i = first; i < first + width(); i++) {
                sum += sizeOf(stand, i);
            }
            return sum <= number;
        }

        private boolean hasDropped(Stand stand, int first) {
            for (int i = first; i < first + width(); i++) {
                if (stand.dropped[i] != 0L) {
                    return true;
                }
            }
            return false;
        }
    }

    /** A merge that is begun: segments only come behind meanwhile, so those of it stay where they stand. */
    private static final class Merge {
        boolean begun;
        int first;
        int width;
        /** Who was dropped when it was begun, by segment of the merge: those don't come. */
        private final long[] left = new long[SEGMENTS];

        void start(Stand stand, int first, int width) {
            this.begun = true;
            this.first = first;
            this.width = width;
            for (int i = 0; i < width; i++) {
                left[i] = stand.dropped[first + i];
            }
        }

        int howManyCome(Stand stand) {
            int sum = 0;
            for (int i = 0; i < width; i++) {
                sum += stand.segments[first + i].docs.length - Long.bitCount(left[i]);
            }
            return sum;
        }

        /** Fills the row with those that come: the bits of those who are dropped by now. */
        long bring(Stand stand, Doc[] coming) {
            long dropped = 0L;
            int n = 0;
            for (int i = 0; i < width; i++) {
                Doc[] docs = stand.segments[first + i].docs;
                for (int place = 0; place < docs.length && n < coming.length; place++) {
                    if ((left[i] >>> place & 1L) == 0L) {
                        coming[n] = docs[place];
                        dropped |= stand.isDropped(first + i, place) ? 1L << n : 0L;
                        n++;
                    }
                }
            }
            return dropped;
        }
    }

    /**
     * A query as a row of steps, each part behind the parts that it is made of, so that its worth is
     * reckoned without recursion. A step may have two numbers: RANGE from and below (the words from the
     * one on that are below the other: one word, or all that begin so), NEAR its words, PHRASE the place
     * of its first word in the row of phrase words and how many it has; NOT, AND, OR have none.
     */
    private static final class Query {
        static final int RANGE = 0, NEAR = 1, PHRASE = 2, NOT = 3, AND = 4, OR = 5;

        /** A step takes a byte of the tape at least, and so does a phrase's word. */
        private final int[] steps = new int[TAPE_BYTES];
        private final int[] ones = new int[TAPE_BYTES];
        private final int[] others = new int[TAPE_BYTES];
        private int size;
        private final int[] phraseWords = new int[TAPE_BYTES];
        private int phraseSize;
        /** Five levels of ( with a left side of or and of and each, and one more. */
        private final int[] pending = new int[16];

        void clear() {
            size = 0;
            phraseSize = 0;
        }

        void put(int step, int one, int other) {
            if (size < TAPE_BYTES) {
                steps[size] = step;
                ones[size] = one;
                others[size] = other;
                size++;
            }
        }

        void putPhraseWord(int word) {
            if (phraseSize < TAPE_BYTES) {
                phraseWords[phraseSize] = word;
                phraseSize++;
            }
        }

        /** The last n phrase words are a phrase. */
        void putPhrase(int n) {
            put(PHRASE, phraseSize - n, n);
        }

        int worthIn(int[] words) {
            int top = -1;
            for (int at = 0; at < size; at++) {
                int step = steps[at];
                if (step <= PHRASE && top + 1 < pending.length) {
                    top++;
                    pending[top] = leafWorth(words, at);
                } else if (step == NOT && top >= 0) {
                    pending[top] = pending[top] == 0 ? 1 : 0;
                } else if (top >= 1) {
                    top--;
                    boolean counts = step == OR || (pending[top] != 0 && pending[top + 1] != 0);
                    pending[top] = counts ? pending[top] + pending[top + 1] : 0;
                }
            }
            return top < 0 ? 0 : Math.min(pending[0], MOST_WORTH);
        }

        int costIn(Stand stand) {
            int sum = 0;
            for (int s = 0; s < stand.size; s++) {
                for (int at = 0; at < size; at++) {
                    sum += leafCost(stand.segments[s], at);
                }
            }
            return sum;
        }

        private int leafWorth(int[] words, int at) {
            switch (steps[at]) {
                case RANGE:
                    return placesBetween(words, ones[at], others[at]);
                case NEAR:
                    return nearTwos(words, ones[at], others[at]);
                default:
                    return others[at] * phrasesIn(words, ones[at], others[at]);
            }
        }

        private int leafCost(Segment segment, int at) {
            switch (steps[at]) {
                case RANGE:
                    return segment.postingsBetween(ones[at], others[at]);
                case NEAR:
                    return segment.postingsOf(ones[at]) + segment.postingsOf(others[at]);
                case PHRASE:
                    return phraseCost(segment, ones[at], others[at]);
                default:
                    return 0;
            }
        }

        private int phraseCost(Segment segment, int from, int n) {
            int sum = 0;
            for (int i = from; i < from + n; i++) {
                sum += segment.postingsOf(phraseWords[i]);
            }
            return sum;
        }

        private static int placesBetween(int[] words, int low, int high) {
            int sum = 0;
            for (int i = 0; i < words.length; i++) {
                if (words[i] >= low && words[i] < high) {
                    sum++;
                }
            }
            return sum;
        }

        private static int nearTwos(int[] words, int one, int other) {
            int sum = 0;
            for (int i = 0; i < words.length; i++) {
                int end = Math.min(words.length - 1, i + NEAR_PLACES);
                for (int j = Math.max(0, i - NEAR_PLACES); j <= end; j++) {
                    if (i != j && words[i] == one && words[j] == other) {
                        sum++;
                    }
                }
            }
            return sum;
        }

        private int phrasesIn(int[] words, int from, int n) {
            int sum = 0;
            for (int i = 0; i + n <= words.length; i++) {
                int same = 0;
                while (same < n && words[i + same] == phraseWords[from + same]) {
                    same++;
                }
                if (same == n) {
                    sum++;
                }
            }
            return sum;
        }
    }

    /** Reads the tape as a query, token by token, and stops at the first that can't stand there. */
    private static final class QueryReader {
        static final int END = 0, WORD = 1, KEY_OR = 2, KEY_AND = 3, KEY_NOT = 4, WRONG = 5;
        /** or, and, not as numbers of six digits. */
        static final int OR_LETTERS = (15 * 27 + 18) * 531441;
        static final int AND_LETTERS = ((27 + 14) * 27 + 4) * 19683;
        static final int NOT_LETTERS = ((14 * 27 + 15) * 27 + 20) * 19683;

        private final Tape tape;
        private Query query;
        private int token;
        private int place;
        private int end;
        /** The token's letters, if it has some. */
        private int word;
        /** How many ( and not are open. */
        private int opened;
        private int fault;

        QueryReader(Tape tape) {
            this.tape = tape;
        }

        /** The place of the fault, or NONE. */
        int read(Query target) {
            query = target;
            query.clear();
            opened = 0;
            fault = NONE;
            end = 0;
            next();
            readEither();
            if (token != END) {
                refuse();
            }
            return fault;
        }

        private void refuse() {
            if (fault == NONE) {
                fault = place;
            }
        }

        /** Signs are tokens by their own bytes; those are all above the other tokens' numbers. */
        private void next() {
            place = tape.behindBlanks(end);
            end = place;
            if (place >= tape.size) {
                token = END;
                return;
            }
            end = tape.wordEnd(place);
            if (end > place) {
                word = tape.wordBetween(place, end);
                token = end - place > WORD_LETTERS ? WRONG : wordToken(word);
                return;
            }
            end = place + 1;
            switch (tape.bytes[place]) {
                case '(':
                case ')':
                case '"':
                case '*':
                case '~':
                    token = tape.bytes[place];
                    break;
                default:
                    token = WRONG;
            }
        }

        private static int wordToken(int word) {
            switch (word) {
                case OR_LETTERS:
                    return KEY_OR;
                case AND_LETTERS:
                    return KEY_AND;
                case NOT_LETTERS:
                    return KEY_NOT;
                default:
                    return WORD;
            }
        }

        private void readEither() {
            readBoth();
            for (int i = 0; i < TAPE_BYTES && fault == NONE && token == KEY_OR; i++) {
                next();
                readBoth();
                query.put(Query.OR, 0, 0);
            }
        }

        private void readBoth() {
            readOne();
            for (int i = 0; i < TAPE_BYTES && fault == NONE && token == KEY_AND; i++) {
                next();
                readOne();
                query.put(Query.AND, 0, 0);
            }
        }

        private void readOne() {
            switch (token) {
                case KEY_NOT:
                    readNot();
                    break;
                case '(':
                    readBrackets();
                    break;
                case WORD:
                    readWord();
                    break;
                case '"':
                    readPhrase();
                    break;
                default:
                    refuse();
            }
        }

        private void readNot() {
            if (opened >= OPEN_PARTS) {
                refuse();
                return;
            }
            opened++;
            next();
            readOne();
            opened--;
            query.put(Query.NOT, 0, 0);
        }

        private void readBrackets() {
            if (opened >= OPEN_PARTS) {
                refuse();
                return;
            }
            opened++;
            next();
            readEither();
            if (token != ')') {
                refuse();
            }
            if (fault == NONE) {
                opened--;
                next();
            }
        }

        private void readWord() {
            int first = word;
            int letters = end - place;
            next();
            if (token == '*') {
                query.put(Query.RANGE, first, first + SPANS[letters]);
                next();
                return;
            }
            if (token != '~') {
                query.put(Query.RANGE, first, first + 1);
                return;
            }
            next();
            if (token != WORD) {
                refuse();
                return;
            }
            query.put(Query.NEAR, first, word);
            next();
        }

        private void readPhrase() {
            int words = 0;
            next();
            while (words < PHRASE_WORDS && token == WORD) {
                query.putPhraseWord(word);
                words++;
                next();
            }
            if (words == 0 || token != '"') {
                refuse();
                return;
            }
            query.putPhrase(words);
            next();
        }
    }

    /** What a query found in a stand, greatest worth first. */
    private static final class Hits {
        final int[] keys = new int[ALL_DOCS];
        final int[] worths = new int[ALL_DOCS];
        /** Bit i of item s: the document at place i of segment s is found. */
        final long[] marks = new long[SEGMENTS];
        int size;
        /** The worth of all, together. */
        int total;

        void search(Query query, Stand stand) {
            size = 0;
            total = 0;
            for (int s = 0; s < stand.size; s++) {
                marks[s] = 0L;
                Doc[] docs = stand.segments[s].docs;
                for (int i = 0; i < docs.length; i++) {
                    int worth = stand.isDropped(s, i) ? 0 : query.worthIn(docs[i].words);
                    if (worth > 0) {
                        marks[s] |= 1L << i;
                        insert(docs[i].key, worth);
                    }
                }
            }
            for (int s = stand.size; s < SEGMENTS; s++) {
                marks[s] = 0L;
            }
        }

        private void insert(int key, int worth) {
            if (size >= ALL_DOCS) {
                return;
            }
            int at = size;
            while (at > 0 && worths[at - 1] < worth) {
                keys[at] = keys[at - 1];
                worths[at] = worths[at - 1];
                at--;
            }
            keys[at] = key;
            worths[at] = worth;
            size++;
            total += worth;
        }

        static boolean isAnswer(int what) {
            if (what < 10) {
                return what >= 0 && what <= 2;
            }
            return what < 10 + ALL_DOCS || (what >= 100 && what < 100 + ALL_DOCS);
        }

        int answer(int what) {
            if (what == 0) {
                return size;
            }
            if (what == 2) {
                return total;
            }
            int i = what >= 100 ? what - 100 : what - 10;
            if (i < 0 || i >= size) {
                return NONE;
            }
            return what >= 100 ? worths[i] : keys[i];
        }

        int alsoIn(Hits other) {
            int sum = 0;
            for (int s = 0; s < SEGMENTS; s++) {
                sum += Long.bitCount(marks[s] & other.marks[s]);
            }
            return sum;
        }
    }

    /** Looks that were opened ever, and the last ones that were shut, the latest first. */
    private static final class Looks {
        int ever;
        private final int[] log = new int[LOG_LOOKS];
        private int kept;

        int start() {
            ever++;
            return ever;
        }

        void end(int look) {
            kept = Math.min(kept + 1, LOG_LOOKS);
            for (int i = kept - 1; i > 0; i--) {
                log[i] = log[i - 1];
            }
            log[0] = look;
        }

        int ended(int k) {
            return k >= 0 && k < kept ? log[k] : NONE;
        }
    }

    /** A row of numbers of the host. */
    private static final class Sheet {
        static final int MISSING = -1, BYTES = 0, INTS = 1;

        final int[] items = new int[SHEET_ITEMS];
        int sort = MISSING;
        private int size;

        boolean isMissing() {
            return sort == MISSING;
        }

        void become(int newSort, int n) {
            sort = newSort;
            size = n;
            for (int i = 0; i < SHEET_ITEMS; i++) {
                items[i] = 0;
            }
        }

        boolean hasItems(int from, int n) {
            return from >= 0 && n >= 0 && from <= size && n <= size - from;
        }

        void put(int i, int v) {
            if (hasItems(i, 1)) {
                items[i] = sort == BYTES ? v & 255 : v;
            }
        }

        /** The first place where the items aren't just these keys; NONE: they are. */
        int firstOtherwise(int[] keys, int n) {
            int both = Math.min(n, size);
            for (int i = 0; i < both; i++) {
                if (items[i] != keys[i]) {
                    return i;
                }
            }
            return n == size ? NONE : both;
        }
    }
}
