/** The boundary sentences of promises 8 to 17, and that what they refuse changes nothing. */
public final class SegmentsBoundsTest {
    private static final Due T = new Due("segments' bounds");
    private static final int PAIRS = 1, DENSE = 2, NEVER = 5;
    private static final int[] FAR = {Due.LEAST, Due.MOST};

    public static void main(String[] args) {
        told();
        toldHolders();
        toldBad();
        doc();
        docBad();
        docOutside();
        word();
        wordLetters();
        wordBad();
        wordOutside();
        set();
        setBad();
        taken();
        takenBad();
        choice();
        choiceBad();
        begin();
        beginState();
        beginNone();
        finish();
        finishState();
        leave();
        leaveState();
        cheapest();
        cheapestBad();
        T.end();
    }

    private static void told() {
        T.sentence("8 told: Of a SEGMENT: how many it holds (what 0), that aren't DROPPED (1), how many WORDS its DICTIONARY "
            + "has (2), POSTINGS of all of these, together (3), SIZE (4), TIER (5), NAME (6)");
        LiveIndex x = new LiveIndex();
        Due.segment(x, 0, "a b a", "a", "c");
        for (int i = 1; i < 8; i++) Due.segment(x, 10 * i, 1);
        T.row("the first", toldOf(x, 0), 3, 3, 3, 4, 3, 1, 1, 0, 0);
        T.row("the last", toldOf(x, 7), 1, 1, 1, 1, 1, 0, 8, 0, 0);
        for (int key = 0; key < 3; key++) x.drop(key);
        T.row("all dropped", toldOf(x, 0), 3, 0, 3, 4, 3, 1, 1, 0, 0);
        x.set(0, DENSE);
        T.row("all dropped, dense", toldOf(x, 0), 3, 0, 3, 4, 0, 0, 1, 0, 0);
    }

    private static int[] toldOf(LiveIndex x, int segment) {
        int[] row = new int[9];
        for (int what = 0; what < 9; what++) row[what] = x.told(segment, what);
        return row;
    }

    private static void toldHolders() {
        T.sentence("8 told: in how many open VIEWS it stands (7), whether in THE COMMIT (8; 1, 0)");
        LiveIndex x = new LiveIndex();
        x.open(0);
        Due.segment(x, 0, 1);
        for (int n = 0; n <= 3; n++) {
            T.due("in " + n, x.told(0, 7), n);
            if (n < 3) x.open(n + 1);
        }
        x.shut(0);
        T.due("the first was opened ahead of it", x.told(0, 7), 3);
        x.open(0);
        T.due("in all", x.told(0, 7), 4);
        x.write();
        T.due("written is not the commit", x.told(0, 8), 0);
        x.commit();
        T.due("in it", x.told(0, 8), 1);
        Due.segment(x, 1, 1);
        T.row("a newer one isn't", new int[] {x.told(1, 7), x.told(1, 8)}, 0, 0);
        x.set(0, PAIRS);
        x.begin();
        x.finish();
        x.write();
        T.row("the merged one isn't", new int[] {x.told(0, 7), x.told(0, 8)}, 0, 0);
        x.commit();
        T.due("now it is", x.told(0, 8), 1);
        x.crash();
        T.row("no view behind a crash", new int[] {x.told(0, 7), x.told(0, 8)}, 0, 1);
    }

    private static void toldBad() {
        T.sentence("8 told: BAD");
        Twins.refused(T, "no such", Twins.RICH, Due.BAD, x -> x.told(-1, 0), x -> x.told(3, 0), x -> x.told(0, -1),
            x -> x.told(0, 9), x -> x.told(2, 9), x -> x.told(8, 8));
        for (int far : FAR) {
            Twins.refused(T, "far", Twins.RICH, Due.BAD, x -> x.told(far, 0), x -> x.told(0, far), x -> x.told(far, far));
        }
        Twins.refused(T, "there is none", Twins.NEW, Due.BAD, x -> x.told(0, 0), x -> x.told(0, 9));
        Twins.refused(T, "the last allowed, and it only tells", Twins.RICH, 1, x -> x.told(0, 8), x -> x.told(2, 8));
    }

    private static void doc() {
        T.sentence("9 doc: Of the DOCUMENT at a place (from 0) of a SEGMENT: KEY (what 0), whether it is DROPPED (1; 1, 0), "
            + "how many WORDS it has (2)");
        LiveIndex x = new LiveIndex();
        Due.segment(x, 0, "a", "a b c d e f g h i j k l", "b b", "c");
        Due.segment(x, 99, 1);
        x.drop(0);
        x.drop(99);
        T.row("keys", new int[] {x.doc(0, 0, 0), x.doc(0, 3, 0), x.doc(1, 0, 0)}, 0, 3, 99);
        T.row("dropped", new int[] {x.doc(0, 0, 1), x.doc(0, 1, 1), x.doc(0, 3, 1), x.doc(1, 0, 1)}, 1, 0, 0, 1);
        T.row("words", new int[] {x.doc(0, 0, 2), x.doc(0, 1, 2), x.doc(0, 2, 2), x.doc(1, 0, 2)}, 1, 12, 2, 1);
    }

    private static void docBad() {
        T.sentence("9 doc: BAD: SEGMENT, what");
        Twins.refused(T, "no such, also ahead of -12", Twins.RICH, Due.BAD, x -> x.doc(-1, 0, 0), x -> x.doc(3, 0, 0),
            x -> x.doc(0, 0, -1), x -> x.doc(0, 0, 3), x -> x.doc(-1, -1, 0), x -> x.doc(3, 64, 0), x -> x.doc(0, -1, -1),
            x -> x.doc(0, 2, 3));
        for (int far : FAR) {
            Twins.refused(T, "far", Twins.RICH, Due.BAD, x -> x.doc(far, 0, 0), x -> x.doc(0, 0, far),
                x -> x.doc(far, far, far));
        }
        Twins.refused(T, "there is none", Twins.NEW, x -> x.doc(0, 0, 0), Due.BAD);
    }

    private static void docOutside() {
        T.sentence("9 doc: -12");
        Twins.refused(T, "places", Twins.RICH, Due.OUTSIDE, x -> x.doc(0, -1, 0), x -> x.doc(0, 2, 0), x -> x.doc(1, 1, 1),
            x -> x.doc(2, 2, 2), x -> x.doc(2, Due.LEAST, 2), x -> x.doc(2, Due.MOST, 2));
        LiveIndex x = new LiveIndex();
        Twins.RICH.tell(x);
        T.row("the last places", new int[] {x.doc(0, 1, 0), x.doc(1, 0, 0), x.doc(2, 1, 0)}, 2, 3, 5);
    }

    private static void word() {
        T.sentence("10 word: WORD k (from 0, in order of letters) of the DICTIONARY of a SEGMENT: ... its POSTINGS (1), the "
            + "sum of places of the DOCUMENTS that have it (2)");
        LiveIndex x = new LiveIndex();
        Due.segment(x, 0, "b ba", "a b b", "b a", "ab b");
        int[][] want = {{1, 2, 3}, {29, 1, 3}, {2, 4, 6}, {55, 1, 0}};
        for (int round = 0; round < 2; round++) {
            for (int k = 0; k < 4; k++) T.row("word " + k, wordOf(x, 0, k), want[k]);
            for (int key = 0; key < 4; key++) x.drop(key);
        }
        Due.segment(x, 50, "q");
        T.row("of a segment of one", wordOf(x, 1, 0), 17, 1, 0);
    }

    private static int[] wordOf(LiveIndex x, int segment, int k) {
        return new int[] {x.word(segment, k, 0), x.word(segment, k, 1), x.word(segment, k, 2)};
    }

    private static void wordLetters() {
        T.sentence("10 word: its letters as digits to the base 27 (a 1), the first the highest (what 0)");
        String[] words = {"a", "z", "aa", "az", "ba", "zz", "aaa", "zzz", "aaaaaa", "abcdef", "zzzzzz", "zzzzz", "zaaaaa"};
        for (String word : words) {
            LiveIndex x = new LiveIndex();
            Due.segment(x, 0, word);
            int number = 0;
            for (char c : word.toCharArray()) number = number * 27 + (c - 'a' + 1);
            T.due(word, x.word(0, 0, 0), number);
        }
        LiveIndex x = new LiveIndex();
        Due.segment(x, 0, "b zzzzzz a aaaaaa ab aa z b", "azzzzz aaaaab y");
        String[] order = {"a", "aa", "aaaaaa", "aaaaab", "ab", "azzzzz", "b", "y", "z", "zzzzzz"};
        for (int k = 0; k < order.length; k++) {
            int number = 0;
            for (char c : order[k].toCharArray()) number = number * 27 + (c - 'a' + 1);
            T.due("in order of letters: " + order[k], x.word(0, k, 0), number);
        }
    }

    private static void wordBad() {
        T.sentence("10 word: BAD: SEGMENT, what");
        Twins.refused(T, "no such, also ahead of -12", Twins.RICH, Due.BAD, x -> x.word(-1, 0, 0), x -> x.word(3, 0, 0),
            x -> x.word(0, 0, -1), x -> x.word(0, 0, 3), x -> x.word(-1, -1, 0), x -> x.word(3, 99, 0),
            x -> x.word(0, -1, -1), x -> x.word(0, 3, 3));
        for (int far : FAR) {
            Twins.refused(T, "far", Twins.RICH, Due.BAD, x -> x.word(far, 0, 0), x -> x.word(0, 0, far),
                x -> x.word(far, far, far));
        }
        Twins.refused(T, "there is none", Twins.NEW, x -> x.word(0, 0, 0), Due.BAD);
    }

    private static void wordOutside() {
        T.sentence("10 word: -12");
        Twins.refused(T, "words", Twins.RICH, Due.OUTSIDE, x -> x.word(0, -1, 0), x -> x.word(0, 3, 0), x -> x.word(1, 2, 1),
            x -> x.word(2, 3, 2), x -> x.word(2, Due.LEAST, 2), x -> x.word(2, Due.MOST, 2));
        LiveIndex x = new LiveIndex();
        Twins.RICH.tell(x);
        T.row("the last words", new int[] {x.word(0, 2, 0), x.word(1, 1, 0), x.word(2, 2, 0)}, 3, 3, 6);
    }

    private static void set() {
        T.sentence("11 set: KIND (what 0), NUMBER (1) of THE POLICY, LIMIT (2; 0 .. 9999) becomes v: what it was");
        int[] most = {5, 9, 9999};
        int[] first = {0, 0, 9999};
        for (int what = 0; what < 3; what++) {
            LiveIndex x = new LiveIndex();
            T.row("what it was, from the least to the most", new int[] {x.set(what, 0), x.set(what, most[what]),
                x.set(what, most[what] - 1), x.set(what, 1), x.set(what, 0)}, first[what], 0, most[what], most[what] - 1, 1);
            for (int other = 0; other < 3; other++) {
                if (other != what) T.due("another stays", x.set(other, 0), first[other]);
            }
        }
        LiveIndex x = new LiveIndex();
        Due.segment(x, 0, 1);
        Due.ask(x, "a");
        Due.ask(x, "q");
        x.set(2, 0);
        T.row("a limit of 0", new int[] {x.look(0, 0), x.look(1, 0)}, Due.DEAR, 0);
        x.set(2, 1);
        T.due("a limit of 1", x.look(0, 0), 1);
    }

    private static void setBad() {
        T.sentence("11 set: BAD");
        Twins.refused(T, "no such", Twins.RICH, Due.BAD, x -> x.set(-1, 0), x -> x.set(3, 0), x -> x.set(0, -1),
            x -> x.set(0, 6), x -> x.set(1, -1), x -> x.set(1, 10), x -> x.set(2, -1), x -> x.set(2, 10000));
        for (int far : FAR) {
            Twins.refused(T, "far", Twins.RICH, Due.BAD, x -> x.set(far, 0), x -> x.set(0, far), x -> x.set(1, far),
                x -> x.set(2, far));
        }
    }

    private static void taken() {
        T.sentence("12 taken: THE POLICY taken for one of KIND k (0 .. 5), or one under that one (also by others between): "
            + "its NUMBER. ... -13");
        int n = -13;
        int[][] want = {{9, n, n, n, n, n}, {9, 9, n, n, n, n}, {9, n, 9, n, n, n}, {9, 9, n, 9, n, n}, {9, n, 9, n, 9, n},
            {9, n, n, n, n, 9}};
        for (int kind = 0; kind < 6; kind++) {
            int of = kind;
            LiveIndex x = new LiveIndex();
            x.set(0, kind);
            T.due("number 0", x.taken(kind), 0);
            x.set(1, 9);
            T.row("kind " + kind, new int[] {x.taken(0), x.taken(1), x.taken(2), x.taken(3), x.taken(4), x.taken(5)},
                want[kind]);
            for (int k = 0; k < 6; k++) {
                int asked = k;
                if (want[kind][k] == n) Twins.refused(T, "kind " + kind + " for " + k,
                    Twins.then(Twins.RICH, y -> y.set(0, of)), y -> y.taken(asked), n);
            }
        }
    }

    private static void takenBad() {
        T.sentence("12 taken: BAD: k");
        Twins.refused(T, "k", Twins.RICH, Due.BAD, x -> x.taken(-1), x -> x.taken(6), x -> x.taken(Due.LEAST),
            x -> x.taken(Due.MOST));
    }

    private static void choice() {
        T.sentence("13 choice: CHOICE: the first SEGMENT (what 0; NONE), how many (1; 0), how many DOCUMENTS of these aren't "
            + "DROPPED (2)");
        LiveIndex x = new LiveIndex();
        T.row("none", choiceOf(x), Due.NONE, 0, 0);
        for (int i = 0; i < 3; i++) Due.segment(x, 4 * i, 2);
        T.row("three", choiceOf(x), 0, 3, 6);
        for (int key = 0; key < 12; key++) x.drop(key);
        T.row("three of dropped ones", choiceOf(x), 0, 3, 0);
        x.set(0, NEVER);
        T.row("none", choiceOf(x), Due.NONE, 0, 0);
        x = new LiveIndex();
        for (int i = 0; i < 8; i++) Due.segment(x, 4 * i, i < 5 ? 3 + i % 2 : 1);
        T.row("the last three of eight", choiceOf(x), 5, 3, 3);
    }

    private static int[] choiceOf(LiveIndex x) {
        return new int[] {x.choice(0), x.choice(1), x.choice(2)};
    }

    private static void choiceBad() {
        T.sentence("13 choice: BAD");
        Twins.refused(T, "no such", Twins.RICH, Due.BAD, x -> x.choice(-1), x -> x.choice(3), x -> x.choice(Due.LEAST),
            x -> x.choice(Due.MOST));
        Twins.refused(T, "though there is none", Twins.NEW, Due.BAD, x -> x.choice(-1), x -> x.choice(3));
    }

    private static Twins.Story threeOf(int size) {
        return x -> {
            for (int i = 0; i < 3; i++) Due.segment(x, 4 * i, size);
        };
    }

    private static void begin() {
        T.sentence("14 begin: A MERGE of CHOICE is begun: how many come");
        for (int size = 1; size <= 4; size++) {
            LiveIndex x = new LiveIndex();
            threeOf(size).tell(x);
            if (size == 2) x.drop(5);
            T.due("how many come", x.begin(), size == 2 ? 5 : 3 * size);
            T.row("it is begun, all stand", new int[] {x.count(8), x.count(2), x.count(3)}, 1, 3, 3);
        }
        LiveIndex x = new LiveIndex();
        threeOf(1).tell(x);
        for (int key = 0; key < 12; key++) x.drop(key);
        T.row("none comes", new int[] {x.begin(), x.count(8)}, 0, 1);
    }

    private static void beginState() {
        T.sentence("14 begin: STATE: one is begun");
        Twins.refused(T, "there is a choice", Twins.then(threeOf(1), x -> x.begin()), x -> x.begin(), Due.STATE);
        Twins.refused(T, "ahead of NONE: there is no choice by now", Twins.then(threeOf(1), x -> {
            x.begin();
            x.set(0, NEVER);
        }), x -> x.begin(), Due.STATE);
        Twins.refused(T, "also a merge of none", Twins.then(threeOf(1), x -> {
            for (int key = 0; key < 12; key++) x.drop(key);
            x.begin();
        }), x -> x.begin(), Due.STATE);
    }

    private static void beginNone() {
        T.sentence("14 begin: NONE: there is no CHOICE");
        Twins.refused(T, "no segments", Twins.NEW, x -> x.begin(), Due.NONE);
        Twins.refused(T, "never", Twins.then(threeOf(1), x -> x.set(0, NEVER)), x -> x.begin(), Due.NONE);
        Twins.refused(T, "two", x -> {
            Due.segment(x, 0, 1);
            Due.segment(x, 1, 1);
        }, x -> x.begin(), Due.NONE);
    }

    private static void finish() {
        T.sentence("15 finish: It is FINISHED: the NAME of the new SEGMENT; 0: none comes");
        LiveIndex x = new LiveIndex();
        threeOf(2).tell(x);
        x.begin();
        T.row("4", new int[] {x.finish(), x.count(2), x.told(0, 6), x.count(8)}, 4, 1, 4, 0);
        x = new LiveIndex();
        threeOf(2).tell(x);
        for (int key = 0; key < 12; key++) x.drop(key);
        x.begin();
        T.row("0", new int[] {x.finish(), x.count(2), x.count(8), Due.segment(x, 0, 1)}, 0, 0, 0, 4);
        x = new LiveIndex();
        threeOf(2).tell(x);
        for (int key = 1; key < 12; key++) x.drop(key);
        x.begin();
        T.row("one comes", new int[] {x.finish(), x.count(2), x.told(0, 0), x.doc(0, 0, 0)}, 4, 1, 1, 0);
    }

    private static void finishState() {
        T.sentence("15 finish: STATE: none is begun");
        Twins.refused(T, "never begun", Twins.NEW, x -> x.finish(), Due.STATE);
        Twins.refused(T, "there is a choice", threeOf(1), x -> x.finish(), Due.STATE);
        Twins.refused(T, "finished", Twins.then(Twins.RICH, x -> x.finish()), x -> x.finish(), Due.STATE);
        Twins.refused(T, "left", Twins.then(Twins.RICH, x -> x.leave()), x -> x.finish(), Due.STATE);
        Twins.refused(T, "crashed", Twins.then(Twins.RICH, x -> x.crash()), x -> x.finish(), Due.STATE);
        Twins.refused(T, "no choice", Twins.then(Twins.NEW, x -> x.begin()), x -> x.finish(), Due.STATE);
    }

    private static void leave() {
        T.sentence("16 leave: It is begun no more: 1");
        LiveIndex x = new LiveIndex();
        threeOf(1).tell(x);
        x.begin();
        T.row("begun no more", new int[] {x.leave(), x.count(8), x.count(2), x.finish()}, 1, 0, 3, Due.STATE);
        Twins.alike(T, "it is as if none had been begun", Twins.then(threeOf(2), y -> {
            y.begin();
            y.leave();
        }), threeOf(2));
        x.drop(0);
        T.row("begun anew", new int[] {x.begin(), x.finish(), x.told(0, 0)}, 2, 4, 2);
    }

    private static void leaveState() {
        T.sentence("16 leave: STATE: none is");
        Twins.refused(T, "never begun", Twins.NEW, x -> x.leave(), Due.STATE);
        Twins.refused(T, "there is a choice", threeOf(1), x -> x.leave(), Due.STATE);
        Twins.refused(T, "finished", Twins.then(Twins.RICH, x -> x.finish()), x -> x.leave(), Due.STATE);
        Twins.refused(T, "left", Twins.then(Twins.RICH, x -> x.leave()), x -> x.leave(), Due.STATE);
        Twins.refused(T, "crashed", Twins.then(Twins.RICH, x -> x.crash()), x -> x.leave(), Due.STATE);
    }

    private static void cheapest() {
        T.sentence("17 cheapest: CHEAPEST (what 0), how many stand in the first (1; NONE)");
        LiveIndex x = new LiveIndex();
        int[] costs = {0, 0, 2, 5, 8, 12, 16, 20, 24};
        int[] firsts = {Due.NONE, Due.NONE, 1, 1, 2, 2, 2, 3, 4};
        for (int n = 0; n <= 8; n++) {
            T.row(n + " of one", new int[] {x.cheapest(0), x.cheapest(1)}, costs[n], firsts[n]);
            Due.segment(x, n, 1);
        }
        Twins.refused(T, "it only tells", Twins.RICH, y -> y.cheapest(0), 3);
    }

    private static void cheapestBad() {
        T.sentence("17 cheapest: BAD");
        Twins.refused(T, "no such", Twins.RICH, Due.BAD, x -> x.cheapest(-1), x -> x.cheapest(2), x -> x.cheapest(Due.LEAST),
            x -> x.cheapest(Due.MOST));
        Twins.refused(T, "though there is none", Twins.NEW, Due.BAD, x -> x.cheapest(-1), x -> x.cheapest(2));
    }
}
