/** The boundary sentences of the Terms, part 1: documents, segments, the policy, the tape. */
public final class TermsBoundsTest {
    private static final Due T = new Due("terms' bounds");
    private static final int TIERED = 0, PAIRS = 1, DENSE = 2, EAGER = 3, SPARSE = 4, NEVER = 5;

    public static void main(String[] args) {
        keyOfDocument();
        wordsOfDocument();
        lettersOfWord();
        places();
        buffer();
        segmentsAtMost();
        documentsAtMost();
        live();
        names();
        dictionary();
        postings();
        views();
        refusalNumbers();
        kindAndNumber();
        sizes();
        sparseSize();
        tiers();
        widths();
        fitsTiered();
        fitsBelowThree();
        fitsEager();
        fitsSparse();
        fitsNever();
        chosen();
        tapeBytes();
        blanks();
        faultOfDocument();
        T.end();
    }

    private static String times(int n, String text) {
        return String.join(" ", java.util.Collections.nCopies(n, text));
    }

    private static void keyOfDocument() {
        T.sentence("A DOCUMENT has a KEY (0 .. 99)");
        LiveIndex x = new LiveIndex();
        T.all("the last allowed on both sides", 1, Due.add(x, 0, "a"), Due.add(x, 99, "a"));
        T.all("they are there", 1000, x.where(0), x.where(99) - 1);
        Twins.Story taped = y -> Due.feed(y, "a");
        Twins.refused(T, "the first not allowed on both sides", taped, Due.BAD, y -> y.add(-1), y -> y.add(100));
    }

    private static void wordsOfDocument() {
        T.sentence("and 1 .. 12 WORDS in order");
        for (int n = 1; n <= 12; n++) T.due(n + " words", Due.add(new LiveIndex(), 0, times(n, "a")), n);
        T.due("no word", Due.add(new LiveIndex(), 0, ""), -100);
        T.due("13 words", Due.add(new LiveIndex(), 0, times(13, "a")), -124);
        LiveIndex x = new LiveIndex();
        Due.segment(x, 0, "a b c d e f g h i j k l", "l k j i h g f e d c b a");
        Due.ask(x, "\"a b c d e f\"and\"g h i j k l\"");
        T.row("in order", Due.rowOf(x, 0), 0);
    }

    private static void lettersOfWord() {
        T.sentence("(each 1 .. 6 letters a .. z)");
        for (int n = 1; n <= 6; n++) T.due(n + " letters", Due.add(new LiveIndex(), 0, "z".repeat(n)), 1);
        for (int n = 7; n <= 64; n++) T.due(n + " letters", Due.add(new LiveIndex(), 0, "z".repeat(n)), -100);
        for (int v = 0; v <= 255; v++) {
            int want = v >= 'a' && v <= 'z' ? 1 : v == 32 || v == 10 ? -101 : -100;
            T.due("byte " + v, Due.add(new LiveIndex(), 0, "" + (char) v), want);
            if (v != 32 && v != 10) T.due("behind a letter, byte " + v, Due.add(new LiveIndex(), 0, "a" + (char) v),
                want == 1 ? 1 : -101);
        }
    }

    private static void places() {
        T.sentence("WORDS in order ..., at PLACES 0, 1, ..");
        String[] texts = {"a b x x x x x x x x x x", "a x x b x x x x x x x x", "a x x x b x x x x x x x",
            "x x x x x x x x x x a b", "x x x x x x x x a x x b", "x x x x x x x a x x x b"};
        int[] near = {1, 1, 0, 1, 1, 0};
        for (int i = 0; i < texts.length; i++) {
            LiveIndex x = new LiveIndex();
            Due.segment(x, 0, texts[i]);
            Due.ask(x, "a~b");
            T.due("a near b in " + texts[i], x.look(0, 2), near[i]);
        }
    }

    private static void buffer() {
        T.sentence("THE BUFFER holds 4 at most, in order");
        LiveIndex x = new LiveIndex();
        T.due("empty", x.count(1), 0);
        for (int i = 0; i < 4; i++) {
            T.due("one more", Due.add(x, 90 - i, "a"), 1);
            T.all("how many, and the place", i, x.count(1) - 1, x.where(90 - i) - 1000);
        }
        T.due("not a fifth", Due.add(x, 1, "a"), Due.FULL);
        T.all("in order", 1000, x.where(90), x.where(89) - 1, x.where(88) - 2, x.where(87) - 3);
        x.flush();
        T.all("in order in the segment", 90, x.doc(0, 0, 0), x.doc(0, 1, 0) + 1, x.doc(0, 2, 0) + 2, x.doc(0, 3, 0) + 3);
    }

    private static void segmentsAtMost() {
        T.sentence("SEGMENTS (8 at most, numbered from 0 as they stand)");
        LiveIndex x = new LiveIndex();
        T.due("none at first", x.count(2), 0);
        for (int i = 0; i < 8; i++) {
            T.due("segment " + i, Due.segment(x, i, 1), i + 1);
            T.all("its number", i + 1, x.told(i, 6), x.told(i + 1, 6) + 3 + i);
        }
        T.due("not a ninth", Due.segment(x, 8, 1), Due.FULL);
        T.all("numbers", Due.BAD, x.told(-1, 0), x.told(8, 0));
        x.begin();
        x.finish();
        T.all("numbers as they stand by now", 4, x.told(1, 6), x.told(5, 6) - 4, x.count(2) - 2);
    }

    /** Segments of 16, 16, 16, 12 documents with keys 0 .. 59. */
    private static LiveIndex sixty() {
        LiveIndex x = new LiveIndex();
        Due.fill(x, 60, "a");
        Due.mergeAll(x);
        return x;
    }

    private static void documentsAtMost() {
        T.sentence("64 at most in all SEGMENTS together (DROPPED ones, too)");
        LiveIndex x = sixty();
        for (int i = 0; i < 4; i++) Due.add(x, 60 + i, "a");
        T.due("the 64th comes", x.flush() > 0 ? 1 : x.flush(), 1);
        T.due("64 are live", x.count(0), 64);
        T.due("not one more", Due.segment(x, 64, 1), Due.FULL);
        for (int key = 0; key < 64; key++) x.drop(key);
        T.due("only the buffer's is live", x.count(0), 1);
        T.due("dropped ones, too", x.flush(), Due.FULL);
        x = sixty();
        Due.segment(x, 60, 1);
        T.due("not four more than 61", Due.segment(x, 70, 4), Due.FULL);
        x.drop(73);
        T.due("but three", x.flush() > 0 ? 1 : 0, 1);
    }

    private static void live() {
        T.sentence("LIVE are those in THE BUFFER and those in SEGMENTS that aren't DROPPED; no two LIVE ones have one KEY");
        LiveIndex x = new LiveIndex();
        T.due("none", x.count(0), 0);
        Due.add(x, 5, "a");
        Due.add(x, 5, "b");
        T.due("in the buffer", x.count(0), 1);
        x.flush();
        Due.add(x, 5, "c");
        T.due("in a segment and the buffer", x.count(0), 1);
        x.flush();
        T.all("in two segments", 1, x.count(0), x.doc(0, 0, 1), x.doc(1, 0, 1) + 1);
        Due.add(x, 6, "d");
        T.due("of two keys", x.count(0), 2);
        x.drop(5);
        T.due("the buffer's", x.count(0), 1);
        x.drop(6);
        T.due("none again", x.count(0), 0);
    }

    private static void names() {
        T.sentence("A SEGMENT has a NAME: 1, 2, .. as SEGMENTS were made ever");
        LiveIndex x = new LiveIndex();
        T.due("the first", Due.segment(x, 0, 1), 1);
        x.drop(0);
        T.due("the next, though its only one is dropped", Due.segment(x, 0, 1), 2);
        T.due("a refused flush makes none", x.flush(), Due.STATE);
        T.due("so this one follows", Due.segment(x, 1, 1), 3);
        x.begin();
        T.due("a merge makes one", x.finish(), 4);
        x.crash();
        T.due("behind a crash", Due.segment(x, 2, 1), 5);
        x.drop(2);
        x.set(0, SPARSE);
        Due.segment(x, 3, 1);
        T.due("none comes", x.drop(3) + x.begin() + x.finish(), 1);
        T.due("where none comes none is made", Due.segment(x, 4, 1), 7);
    }

    private static void dictionary() {
        T.sentence("DICTIONARY of a SEGMENT: all unlike WORDS of its DOCUMENTS (DROPPED ones, too)");
        LiveIndex x = new LiveIndex();
        Due.segment(x, 0, "a", "a a", "b a");
        T.due("unlike ones", x.told(0, 2), 2);
        x.drop(2);
        T.due("of dropped ones, too", x.told(0, 2), 2);
        x.drop(0);
        x.drop(1);
        T.all("though all are dropped", 2, x.told(0, 2), x.word(0, 1, 0), x.word(0, 0, 0) + 1);
        x = new LiveIndex();
        Due.segment(x, 0, "a b c d e f g h i j k l", "m n o p q r s t u v w x", "aa ab ac ad ae af ag ah ai aj ak al",
            "ba bb bc bd be bf bg bh bi bj bk bl");
        T.all("48 unlike ones", 48, x.told(0, 2), x.told(0, 3), x.word(0, 47, 1) + 47, x.word(0, 48, 1) + 60);
    }

    private static void postings() {
        T.sentence("POSTINGS of a WORD in a SEGMENT: how many of its DOCUMENTS (DROPPED ones, too) have it");
        LiveIndex x = new LiveIndex();
        Due.segment(x, 0, times(12, "a"), "a b", "b", "c");
        T.row("each once", new int[] {x.word(0, 0, 1), x.word(0, 1, 1), x.word(0, 2, 1)}, 2, 2, 1);
        x.drop(0);
        x.drop(2);
        T.row("dropped ones, too", new int[] {x.word(0, 0, 1), x.word(0, 1, 1), x.word(0, 2, 1)}, 2, 2, 1);
    }

    private static void views() {
        T.sentence("VIEWS 0 .. 3 are open or not (not, at first)");
        Twins.refused(T, "not at first", Twins.NEW, Due.STATE, x -> x.shut(0), x -> x.shut(1), x -> x.shut(2), x -> x.shut(3));
        LiveIndex x = new LiveIndex();
        T.all("four open", 0, x.open(0), x.open(1), x.open(2), x.open(3), x.count(5) - 4);
        Twins.refused(T, "no such ones", Twins.NEW, Due.BAD, y -> y.open(-1), y -> y.open(4));
    }

    private static void refusalNumbers() {
        T.sentence("Refusals ...: BAD (-2), STATE (-3), FULL (-4), DEAR (-6); -11, -12, -13, -14; NONE is -1");
        T.row("constants", new int[] {LiveIndex.NONE, LiveIndex.BAD, LiveIndex.STATE, LiveIndex.FULL, LiveIndex.DEAR},
            -1, -2, -3, -4, -6);
        LiveIndex x = new LiveIndex();
        T.row("calls", new int[] {x.where(0), x.where(-1), x.flush(), x.cell(0, 0, 0), x.sheet(0, 0, -1)},
            -1, -2, -3, -11, -14);
        x.sheet(0, 0, 1);
        x.sheet(1, 1, 1);
        Due.segment(x, 0, 1);
        for (int i = 0; i < 6; i++) Due.ask(x, "a");
        x.set(2, 0);
        T.row("calls", new int[] {x.cell(0, 1, 0), x.copy(0, 0, 1, 0, 1), x.query(), x.look(0, 0)}, -12, -13, -4, -6);
    }

    private static void kindAndNumber() {
        T.sentence("THE POLICY has a KIND: 0 .. 5 (0 at first), and a NUMBER (0 .. 9; 0 at first)");
        LiveIndex x = new LiveIndex();
        T.all("at first", 0, x.set(0, 0), x.set(1, 0));
        T.row("kinds on both sides", new int[] {x.set(0, 5), x.set(0, 0), x.set(0, -1), x.set(0, 6)}, 0, 5, -2, -2);
        T.row("numbers on both sides", new int[] {x.set(1, 9), x.set(1, 0), x.set(1, -1), x.set(1, 10)}, 0, 9, -2, -2);
    }

    private static int sizeOf(LiveIndex x, int kind, int number) {
        x.set(0, kind);
        x.set(1, number);
        return x.told(0, 4);
    }

    private static void sizes() {
        T.sentence("SIZE of a SEGMENT: TIERED: how many DOCUMENTS it holds; DENSE: how many that aren't DROPPED; ...");
        for (int dropped = 0; dropped <= 4; dropped++) {
            LiveIndex x = new LiveIndex();
            Due.segment(x, 0, 4);
            for (int key = 0; key < dropped; key++) x.drop(key);
            for (int kind : new int[] {TIERED, PAIRS, EAGER, NEVER}) T.due("kind " + kind, sizeOf(x, kind, 9), 4);
            T.due("dense", sizeOf(x, DENSE, 9), 4 - dropped);
        }
    }

    private static void sparseSize() {
        T.sentence("SPARSE: NUMBER less than a DENSE's, 0 at least");
        for (int dropped = 0; dropped <= 4; dropped++) {
            LiveIndex x = new LiveIndex();
            Due.segment(x, 0, 4);
            for (int key = 0; key < dropped; key++) x.drop(key);
            for (int number = 0; number <= 9; number++) {
                int want = 4 - dropped > number ? 4 - dropped - number : 0;
                T.due(dropped + " dropped, number " + number, sizeOf(x, SPARSE, number), want);
            }
        }
    }

    /** Segments of 16 documents, made of fours: PAIRS leaves what is of tier 3 alone. */
    private static LiveIndex sixteens(int n) {
        LiveIndex x = new LiveIndex();
        x.set(0, PAIRS);
        for (int key = 0; key < 16 * n; key += 4) {
            Due.segment(x, key, 4);
            if (key % 16 == 12) Due.mergeAll(x);
        }
        T.due("segments of 16", x.count(2), n);
        for (int s = 0; s < n; s++) T.due("16", x.told(s, 0), 16);
        return x;
    }

    private static void tiers() {
        T.sentence("TIER: 0, if SIZE is 2 or less, 1, if it is 6 or less, 2, if it is 14 or less, else 3");
        LiveIndex x = sixteens(1);
        x.set(0, DENSE);
        int[] tiers = {0, 0, 0, 1, 1, 1, 1, 2, 2, 2, 2, 2, 2, 2, 2, 3, 3};
        for (int size = 16; size >= 0; size--) {
            T.due("size", x.told(0, 4), size);
            T.due("tier of " + size, x.told(0, 5), tiers[size]);
            x.drop(16 - size);
        }
        x.set(0, TIERED);
        T.due("16 held, all dropped", x.told(0, 5), 3);
    }

    private static void dueChoice(String name, LiveIndex x, int first, int width, int live) {
        T.row(name + ": first, how many, live", new int[] {x.choice(0), x.choice(1), x.choice(2)}, first, width, live);
    }

    private static void dueNoChoice(String name, LiveIndex x) {
        dueChoice(name, x, Due.NONE, 0, 0);
    }

    private static void widths() {
        T.sentence("WIDTH: TIERED: 3; PAIRS: 1 less; DENSE: as TIERED; EAGER: as PAIRS; SPARSE: 1 less than a DENSE's; NEVER: 9");
        int[] width = {3, 2, 3, 2, 2, 9};
        for (int kind = 0; kind < 6; kind++) {
            LiveIndex x = new LiveIndex();
            x.set(0, kind);
            for (int n = 0; n <= 8; n++) {
                if (n >= width[kind]) dueChoice(n + " segments, kind " + kind, x, 0, width[kind], width[kind]);
                else dueNoChoice(n + " segments, kind " + kind, x);
                Due.segment(x, 2 * n, 2);
                x.drop(2 * n);
            }
        }
    }

    private static LiveIndex ofSizes(int... sizes) {
        LiveIndex x = new LiveIndex();
        for (int i = 0; i < sizes.length; i++) Due.segment(x, 4 * i, sizes[i]);
        return x;
    }

    private static void fitsTiered() {
        T.sentence("FITS (WIDTH SEGMENTS that stand one behind another): TIERED: all are of one TIER");
        dueChoice("three alike", ofSizes(2, 2, 1), 0, 3, 5);
        dueNoChoice("the first unlike", ofSizes(3, 2, 2));
        dueNoChoice("the middle one unlike", ofSizes(2, 3, 2));
        dueNoChoice("the last unlike", ofSizes(2, 2, 3));
        dueNoChoice("three that don't stand one behind another", ofSizes(2, 2, 3, 2));
        dueChoice("the last three of eight", ofSizes(1, 4, 1, 4, 1, 3, 4, 3), 5, 3, 10);
        LiveIndex x = ofSizes(1, 3);
        x.set(0, PAIRS);
        dueNoChoice("an unlike pair", x);
        x = ofSizes(3, 4, 3);
        x.set(0, DENSE);
        dueChoice("dense, of tier 1", x, 0, 3, 10);
        x.drop(4);
        x.drop(5);
        dueNoChoice("dense, the middle one of tier 0", x);
    }

    private static void fitsBelowThree() {
        T.sentence("FITS: TIERED: all are of one TIER, below 3; PAIRS, DENSE, EAGER: as TIERED");
        LiveIndex x = sixteens(2);
        for (int kind : new int[] {PAIRS, EAGER}) {
            x.set(0, kind);
            T.all("both of tier 3", 3, x.told(0, 5), x.told(1, 5));
            dueNoChoice("kind " + kind + " of tier 3", x);
        }
        x.set(0, SPARSE);
        x.drop(0);
        dueNoChoice("sparse of tier 3: 15 and 16", x);
        for (int key : new int[] {1, 16, 17}) x.drop(key);
        dueChoice("sparse of tier 2: 14 and 14", x, 0, 2, 28);
        threeOfTop();
    }

    private static void threeOfTop() {
        LiveIndex x = sixteens(3);
        x.set(0, TIERED);
        dueNoChoice("tiered of tier 3", x);
        x.set(0, DENSE);
        dueNoChoice("dense of tier 3", x);
        for (int key = 0; key < 48; key += 16) {
            x.drop(key);
            dueNoChoice("dense, not all of tier 2", x);
            x.drop(key + 1);
        }
        dueChoice("dense of tier 2", x, 0, 3, 42);
        x.set(0, TIERED);
        dueNoChoice("tiered of tier 3, dropped ones too", x);
    }

    private static void fitsEager() {
        T.sentence("FITS: EAGER: as PAIRS, or their SIZES are NUMBER or less, together");
        int[][] sizes = {{1, 3}, {3, 1}, {2, 3}, {1, 4}, {4, 2}, {2, 4}};
        for (int[] pair : sizes) {
            LiveIndex x = ofSizes(pair);
            x.set(0, EAGER);
            for (int number = 0; number <= 9; number++) {
                x.set(1, number);
                if (pair[0] + pair[1] <= number) dueChoice("number " + number, x, 0, 2, pair[0] + pair[1]);
                else dueNoChoice("number " + number, x);
            }
        }
        LiveIndex x = ofSizes(4, 4);
        x.set(0, EAGER);
        dueChoice("as pairs, whatever the number", x, 0, 2, 8);
        x = ofSizes(4, 2);
        x.set(0, EAGER);
        x.set(1, 5);
        x.drop(0);
        dueNoChoice("sizes as pairs: dropped ones too", x);
        x = ofSizes(4, 3, 2);
        x.set(0, EAGER);
        x.set(1, 9);
        x.begin();
        x.finish();
        dueChoice("7 and 2 are 9", x, 0, 2, 9);
        x.set(1, 8);
        dueNoChoice("and not 8", x);
    }

    private static void fitsSparse() {
        T.sentence("FITS: SPARSE: as DENSE, and one at least has a DROPPED one");
        for (int key : new int[] {0, 1, 4, 5}) {
            LiveIndex x = ofSizes(2, 2);
            x.set(0, SPARSE);
            dueNoChoice("none is dropped", x);
            x.drop(key);
            dueChoice("key " + key + " is dropped", x, 0, 2, 3);
        }
        LiveIndex x = ofSizes(2, 2, 2);
        x.set(0, SPARSE);
        x.drop(8);
        dueChoice("only in the third", x, 1, 2, 3);
        x = ofSizes(4, 2);
        x.set(0, SPARSE);
        x.drop(4);
        dueNoChoice("as dense: of one tier", x);
        x.drop(0);
        x.drop(1);
        dueChoice("as dense: by those that aren't dropped", x, 0, 2, 3);
    }

    private static void fitsNever() {
        T.sentence("NEVER under TIERED ... WIDTH ... NEVER: 9 (and there are 8 at most)");
        LiveIndex x = ofSizes(1, 1, 1, 1, 1, 1, 1, 1);
        x.set(0, NEVER);
        x.set(1, 9);
        dueNoChoice("eight alike", x);
        T.due("none is begun", x.begin(), Due.NONE);
    }

    private static void chosen() {
        T.sentence("CHOICE: of those that FIT those whose first is of the least TIER; of like ones the first; NONE");
        dueNoChoice("no segments", new LiveIndex());
        LiveIndex x = ofSizes(3, 3, 3, 1, 1, 1, 1);
        dueChoice("the least tier, though it is behind", x, 3, 3, 3);
        x = ofSizes(1, 1, 1, 1, 3, 3, 3);
        dueChoice("of like ones the first", x, 0, 3, 3);
        x = ofSizes(3, 4, 1, 3, 4);
        x.set(0, PAIRS);
        dueChoice("of like ones the first, of tier 1", x, 0, 2, 7);
        x.set(0, EAGER);
        x.set(1, 4);
        dueChoice("the one whose FIRST is of the least tier: 1 and 3", x, 2, 2, 4);
        x.set(1, 5);
        dueChoice("not 4 and 1, whose first is of tier 1", x, 2, 2, 4);
        x.set(1, 3);
        dueChoice("a sum too little leaves the pairs", x, 0, 2, 7);
        x = ofSizes(4, 4, 1, 1);
        x.set(0, PAIRS);
        x.begin();
        x.finish();
        x.set(0, EAGER);
        x.set(1, 9);
        dueChoice("two fours make 8 and 2 more would be 10", x, 0, 2, 8);
    }

    private static void tapeBytes() {
        T.sentence("THE TAPE has 64 bytes at most");
        for (int n = 1; n <= 5; n++) {
            LiveIndex x = new LiveIndex();
            Due.feed(x, "a".repeat(64 - n));
            T.due("up to 64 by " + n, x.feed(n, 97, 97, 97, 97, 97), 64);
            int more = n;
            Twins.Story lessRoom = y -> Due.feed(y, "a".repeat(65 - more));
            Twins.refused(T, "65 by " + n, lessRoom, y -> y.feed(more, 97, 97, 97, 97, 97), Due.FULL);
        }
    }

    private static void blanks() {
        T.sentence("WORDS, blanks (32, 10) between, before, behind as one likes");
        char[] others = {0, 9, 11, 12, 13, 31, 33, 160, 255};
        for (char blank : new char[] {32, 10}) {
            T.due("between", Due.add(new LiveIndex(), 0, "a" + blank + "b"), 2);
            T.due("before and behind", Due.add(new LiveIndex(), 0, blank + "a" + blank), 1);
            T.due("many", Due.add(new LiveIndex(), 0, ("" + blank).repeat(31) + "ab" + ("" + blank).repeat(31)), 1);
            T.due("in a query", Due.ask(new LiveIndex(), blank + "a" + blank + "or" + blank + "b" + blank), 0);
        }
        for (char other : others) {
            T.due("between " + (int) other, Due.add(new LiveIndex(), 0, "a" + other + "b"), -101);
            T.due("before " + (int) other, Due.add(new LiveIndex(), 0, other + "a"), -100);
            T.due("behind " + (int) other, Due.add(new LiveIndex(), 0, "a" + other), -101);
            T.due("in a query " + (int) other, Due.ask(new LiveIndex(), "a" + other + "or b"), -101);
        }
        T.due("a blank ends a word", Due.add(new LiveIndex(), 0, "abc\ndef ghijkl"), 3);
    }

    private static void faultOfDocument() {
        T.sentence("FAULT: the place of the first byte that can't stand there, of the first byte of a WORD that is too "
            + "long, of a 13th WORD, whichever place is least; the text's size, if it has no WORD");
        String twelve = times(12, "a");
        String[] texts = {"#", "a #", "a# #", "abcdefg", "a abcdefg", "abcdefg abcdefg", twelve + " a", twelve + " a a",
            "# abcdefg", "abcdefg #", "abcdefg#", "abcdef#", "abcde#g", "# " + twelve + " a", twelve + " # a",
            twelve + " a#", twelve + " abcdefg", twelve + "#", twelve + " #", "abcdefg " + twelve, "a abcdefg " + twelve,
            "a".repeat(64), "a " + "b".repeat(62), "", " ", "\n", " \n ", " ".repeat(64), " ".repeat(63) + "#",
            " ".repeat(63) + "a"};
        int[] places = {0, 2, 1, 0, 2, 0, 24, 24, 0, 0, 0, 6, 5, 0, 24, 24, 24, 23, 24, 0, 2,
            0, 2, 0, 1, 1, 3, 64, 63, Due.NONE};
        T.due("as many places as texts", places.length, texts.length);
        for (int i = 0; i < texts.length; i++) {
            int want = places[i] == Due.NONE ? 1 : -100 - places[i];
            T.due("fault of '" + texts[i] + "'", Due.add(new LiveIndex(), 7, texts[i]), want);
        }
        for (int i = 0; i < texts.length; i++) {
            if (places[i] == Due.NONE) continue;
            Twins.alike(T, "it changes nothing but the tape: '" + texts[i] + "'",
                Twins.both(Twins.rich(texts[i]), x -> x.add(8)), Twins.rich(""));
        }
    }
}
