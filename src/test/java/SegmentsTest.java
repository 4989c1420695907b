/** Promises 8 to 17. */
public final class SegmentsTest {
    private static final Due T = new Due("segments");
    private static final int TIERED = 0, PAIRS = 1, DENSE = 2, EAGER = 3, SPARSE = 4, NEVER = 5;

    public static void main(String[] args) {
        told();
        toldSizes();
        toldHolders();
        doc();
        word();
        set();
        taken();
        choiceTiered();
        choiceEager();
        choiceSparse();
        choiceDense();
        begin();
        finish();
        finishMeanwhile();
        finishEmpty();
        leave();
        cheapest();
        T.end();
    }

    private static void told() {
        LiveIndex x = new LiveIndex();
        Due.segment(x, 0, "b a b", "a c", "zz");
        Due.segment(x, 10, "a");
        T.all("8 BAD", Due.BAD, x.told(-1, 0), x.told(2, 0), x.told(8, 0), x.told(0, -1), x.told(0, 9),
            x.told(Due.LEAST, 0), x.told(Due.MOST, 0), x.told(0, Due.LEAST), x.told(0, Due.MOST));
        x.drop(2);
        T.due("8 holds", x.told(0, 0), 3);
        T.due("8 not dropped", x.told(0, 1), 2);
        T.due("8 dictionary, dropped ones too", x.told(0, 2), 4);
        T.due("8 postings", x.told(0, 3), 5);
        T.due("8 size", x.told(0, 4), 3);
        T.due("8 tier", x.told(0, 5), 1);
        T.due("8 name", x.told(0, 6), 1);
        T.all("8 the other's", 1, x.told(1, 0), x.told(1, 1), x.told(1, 2), x.told(1, 3), x.told(1, 4),
            x.told(1, 5) + 1, x.told(1, 6) - 1);
    }

    /** Segments of 6, 7, 14 and 15 are made of small ones: EAGER of 9 takes 4 and 2, 4 and 3; 7 and 7 are of one tier. */
    private static LiveIndex merged(int... sizes) {
        LiveIndex x = new LiveIndex();
        x.set(0, EAGER);
        x.set(1, 9);
        int key = 0;
        for (int size : sizes) {
            Due.segment(x, key, size);
            key += size;
            Due.mergeAll(x);
        }
        x.set(0, TIERED);
        x.set(1, 0);
        return x;
    }

    private static void toldSizes() {
        LiveIndex x = new LiveIndex();
        Due.segment(x, 0, 2);
        Due.segment(x, 10, 3);
        T.all("8 two: tier 0, three: tier 1", 0, x.told(0, 5), x.told(1, 5) - 1);
        x = merged(4, 2);
        T.all("8 six: tier 1", 6, x.told(0, 0), x.told(0, 4), x.told(0, 5) + 5);
        x = merged(4, 3);
        T.all("8 seven: tier 2", 7, x.told(0, 0), x.told(0, 4), x.told(0, 5) + 5);
        x = merged(4, 3, 4, 3);
        T.all("8 fourteen: tier 2", 14, x.told(0, 0), x.told(0, 4), x.told(0, 5) + 12);
        x = merged(4, 3, 4, 4);
        T.all("8 fifteen: tier 3", 15, x.told(0, 0), x.told(0, 4), x.told(0, 5) + 12);
        x.drop(0);
        int[] sizes = {15, 15, 14, 15, 9, 15};
        int[] tiers = {3, 3, 2, 3, 2, 3};
        x.set(1, 5);
        for (int kind = 0; kind < 6; kind++) {
            x.set(0, kind);
            T.due("8 size of kind " + kind, x.told(0, 4), sizes[kind]);
            T.due("8 tier of kind " + kind, x.told(0, 5), tiers[kind]);
        }
        x = new LiveIndex();
        Due.segment(x, 0, 4);
        x.set(0, SPARSE);
        x.set(1, 3);
        T.due("8 a sparse size", x.told(0, 4), 1);
        x.set(1, 4);
        T.due("8 a sparse size of 0", x.told(0, 4), 0);
        x.set(1, 9);
        T.due("8 a sparse size is 0 at least", x.told(0, 4), 0);
    }

    private static void toldHolders() {
        LiveIndex x = new LiveIndex();
        Due.segment(x, 0, 1);
        T.all("8 nobody holds it", 0, x.told(0, 7), x.told(0, 8));
        x.open(0);
        x.open(3);
        x.write();
        Due.segment(x, 1, 1);
        x.open(1);
        T.all("8 in open views", 3, x.told(0, 7), x.told(1, 7) + 2);
        T.due("8 what is written isn't the commit", x.told(0, 8), 0);
        x.commit();
        T.all("8 in the commit", 1, x.told(0, 8), x.told(1, 8) + 1);
        x.shut(3);
        T.all("8 a view less", 2, x.told(0, 7), x.told(1, 7) + 1);
        x.set(0, PAIRS);
        x.begin();
        x.finish();
        T.all("8 a merged one is new", 0, x.told(0, 7), x.told(0, 8));
    }

    private static void doc() {
        LiveIndex x = new LiveIndex();
        T.due("9 no segment", x.doc(0, 0, 0), Due.BAD);
        Due.segment(x, 0, "a b c");
        Due.segment(x, 98, "d", "e f");
        x.drop(99);
        T.all("9 BAD ahead of -12", Due.BAD, x.doc(-1, 9, 0), x.doc(2, 9, 0), x.doc(0, 9, 3), x.doc(0, 9, -1),
            x.doc(Due.LEAST, 0, 0), x.doc(Due.MOST, 0, 0), x.doc(0, 0, Due.LEAST), x.doc(0, 0, Due.MOST));
        T.all("9 -12", Due.OUTSIDE, x.doc(0, -1, 0), x.doc(0, 1, 1), x.doc(1, 2, 2), x.doc(1, 64, 0),
            x.doc(0, Due.LEAST, 0), x.doc(0, Due.MOST, 0));
        T.all("9 key", 0, x.doc(0, 0, 0), x.doc(1, 0, 0) - 98, x.doc(1, 1, 0) - 99);
        T.all("9 dropped", 0, x.doc(0, 0, 1), x.doc(1, 0, 1), x.doc(1, 1, 1) - 1);
        T.all("9 words", 1, x.doc(0, 0, 2) - 2, x.doc(1, 0, 2), x.doc(1, 1, 2) - 1);
    }

    private static void word() {
        LiveIndex x = new LiveIndex();
        T.due("10 no segment", x.word(0, 0, 0), Due.BAD);
        Due.segment(x, 0, "b a b", "zzzzzz a", "ab a ab", "b aaaaaa");
        x.drop(3);
        T.all("10 BAD ahead of -12", Due.BAD, x.word(-1, 9, 0), x.word(1, 9, 0), x.word(0, 9, 3), x.word(0, 9, -1),
            x.word(Due.LEAST, 0, 0), x.word(Due.MOST, 0, 0), x.word(0, 0, Due.LEAST), x.word(0, 0, Due.MOST));
        T.all("10 -12", Due.OUTSIDE, x.word(0, -1, 0), x.word(0, 5, 1), x.word(0, Due.LEAST, 2), x.word(0, Due.MOST, 0));
        int[] letters = {1, 14900788, 29, 2, 387420488};
        int[] postings = {3, 1, 1, 2, 1};
        int[] sums = {3, 3, 2, 3, 1};
        for (int k = 0; k < 5; k++) {
            T.due("10 letters of " + k, x.word(0, k, 0), letters[k]);
            T.due("10 postings of " + k, x.word(0, k, 1), postings[k]);
            T.due("10 places of " + k, x.word(0, k, 2), sums[k]);
        }
    }

    private static void set() {
        LiveIndex x = new LiveIndex();
        T.all("11 BAD", Due.BAD, x.set(-1, 0), x.set(3, 0), x.set(Due.LEAST, 0), x.set(Due.MOST, 0), x.set(0, -1),
            x.set(0, 6), x.set(1, -1), x.set(1, 10), x.set(2, -1), x.set(2, 10000), x.set(0, Due.LEAST),
            x.set(1, Due.MOST), x.set(2, Due.LEAST), x.set(2, Due.MOST));
        T.due("11 kind was", x.set(0, 5), 0);
        T.due("11 kind was", x.set(0, 0), 5);
        T.due("11 number was", x.set(1, 9), 0);
        T.due("11 a kind leaves the number", x.set(0, 3), 0);
        T.due("11 number was", x.set(1, 0), 9);
        T.due("11 limit was", x.set(2, 0), 9999);
        T.due("11 limit was", x.set(2, 9999), 0);
        T.all("11 BAD changes nothing", Due.BAD, x.set(0, 6), x.set(1, 10), x.set(2, 10000));
        T.all("11 as they were", 0, x.set(0, 0) - 3, x.set(1, 0), x.set(2, 0) - 9999);
    }

    private static void taken() {
        LiveIndex x = new LiveIndex();
        x.set(1, 7);
        T.all("12 BAD", Due.BAD, x.taken(-1), x.taken(6), x.taken(Due.LEAST), x.taken(Due.MOST));
        String[] fits = {"0", "01", "02", "013", "024", "05"};
        for (int kind = 0; kind < 6; kind++) {
            x.set(0, kind);
            for (int k = 0; k < 6; k++) {
                boolean under = fits[kind].indexOf('0' + k) >= 0;
                T.due("12 kind " + kind + " taken for " + k, x.taken(k), under ? 7 : Due.UNLIKE);
            }
        }
    }

    private static void dueChoice(String name, LiveIndex x, int first, int width, int live) {
        T.due("13 " + name + ": first", x.choice(0), first);
        T.due("13 " + name + ": how many", x.choice(1), width);
        T.due("13 " + name + ": live", x.choice(2), live);
    }

    private static void choiceTiered() {
        LiveIndex x = new LiveIndex();
        T.all("13 BAD", Due.BAD, x.choice(-1), x.choice(3), x.choice(Due.LEAST), x.choice(Due.MOST));
        dueChoice("no segments", x, Due.NONE, 0, 0);
        Due.segment(x, 0, 3);
        Due.segment(x, 10, 4);
        dueChoice("two of a tier", x, Due.NONE, 0, 0);
        x.set(0, PAIRS);
        dueChoice("a pair", x, 0, 2, 7);
        x.set(0, NEVER);
        dueChoice("never", x, Due.NONE, 0, 0);
        x.set(0, TIERED);
        Due.segment(x, 20, 4);
        dueChoice("three of a tier", x, 0, 3, 11);
        Due.segment(x, 30, 1);
        Due.segment(x, 40, 2);
        dueChoice("two of the least tier are too few", x, 0, 3, 11);
        Due.segment(x, 50, 2);
        x.drop(41);
        dueChoice("the least tier", x, 3, 3, 4);
        x.set(0, PAIRS);
        dueChoice("the first pair of the least tier", x, 3, 2, 2);
        Due.segment(x, 60, 1);
        Due.segment(x, 70, 1);
        x.set(0, NEVER);
        dueChoice("never, with eight", x, Due.NONE, 0, 0);
        x.set(0, DENSE);
        dueChoice("dense", x, 3, 3, 4);
        x = ofSizes(1, 1, 1, 1, 1, 1, 1, 1);
        x.set(0, NEVER);
        dueChoice("never, with eight alike", x, Due.NONE, 0, 0);
        x = merged(4, 3, 4, 4);
        pairOfTopTier(x);
    }

    private static void pairOfTopTier(LiveIndex x) {
        x.set(0, EAGER);
        x.set(1, 9);
        Due.segment(x, 20, 4);
        Due.segment(x, 30, 3);
        Due.mergeAll(x);
        Due.segment(x, 40, 4);
        Due.segment(x, 50, 4);
        Due.mergeAll(x);
        x.set(0, PAIRS);
        T.all("13 two of tier 3", 3, x.told(0, 5), x.told(1, 5), x.count(2) + 1);
        dueChoice("those of tier 3 don't fit", x, Due.NONE, 0, 0);
    }

    private static void choiceEager() {
        LiveIndex x = new LiveIndex();
        x.set(0, EAGER);
        Due.segment(x, 0, 4);
        Due.segment(x, 10, 2);
        dueChoice("eager of 0", x, Due.NONE, 0, 0);
        x.set(1, 5);
        dueChoice("eager of one too few", x, Due.NONE, 0, 0);
        x.set(1, 6);
        dueChoice("eager of just enough", x, 0, 2, 6);
        x.drop(0);
        x.set(1, 5);
        dueChoice("dropped ones count for its size", x, Due.NONE, 0, 0);
        x.set(1, 6);
        dueChoice("dropped ones don't come", x, 0, 2, 5);
        Due.segment(x, 20, 4);
        dueChoice("the first of the lesser tier: 2 and 4", x, 1, 2, 6);
        x.set(0, PAIRS);
        dueChoice("pairs don't take the number", x, Due.NONE, 0, 0);
        x.set(0, EAGER);
        x.set(1, 0);
        Due.segment(x, 30, 4);
        dueChoice("as pairs", x, 2, 2, 8);
    }

    private static void choiceSparse() {
        LiveIndex x = new LiveIndex();
        x.set(0, SPARSE);
        Due.segment(x, 0, 2);
        Due.segment(x, 10, 2);
        Due.segment(x, 20, 3);
        dueChoice("sparse, none dropped", x, Due.NONE, 0, 0);
        x.drop(20);
        dueChoice("sparse, one dropped in the second", x, 1, 2, 4);
        x.drop(10);
        dueChoice("sparse, the first of like ones", x, 0, 2, 3);
        x = new LiveIndex();
        x.set(0, SPARSE);
        Due.segment(x, 0, 4);
        Due.segment(x, 10, 1);
        x.drop(10);
        dueChoice("sparse, unlike tiers", x, Due.NONE, 0, 0);
        x.set(1, 2);
        dueChoice("sparse, the number makes them alike", x, 0, 2, 4);
    }

    private static void choiceDense() {
        LiveIndex x = new LiveIndex();
        x.set(0, DENSE);
        Due.segment(x, 0, 3);
        Due.segment(x, 10, 2);
        Due.segment(x, 20, 2);
        dueChoice("dense, unlike tiers", x, Due.NONE, 0, 0);
        x.drop(0);
        dueChoice("dense, by those that aren't dropped", x, 0, 3, 6);
        x.set(0, TIERED);
        dueChoice("tiered, by all", x, Due.NONE, 0, 0);
    }

    private static void begin() {
        LiveIndex x = new LiveIndex();
        T.due("14 no choice", x.begin(), Due.NONE);
        T.due("14 none is begun by that", x.count(8), 0);
        Due.segment(x, 0, 2);
        Due.segment(x, 10, 2);
        Due.segment(x, 20, 2);
        x.drop(11);
        T.due("14 how many come", x.begin(), 5);
        T.due("14 it is begun", x.count(8), 1);
        T.due("14 one is begun", x.begin(), Due.STATE);
        T.due("14 segments stand still", x.count(2), 3);
        T.due("14 the choice is still told", x.choice(0), 0);
        x.set(0, NEVER);
        T.due("14 STATE ahead of NONE", x.begin(), Due.STATE);
    }

    private static void finish() {
        LiveIndex x = new LiveIndex();
        T.due("15 none is begun", x.finish(), Due.STATE);
        Due.segment(x, 0, 4);
        Due.segment(x, 10, "a", "b");
        Due.segment(x, 20, "c", "a");
        Due.segment(x, 30, "d", "e");
        Due.segment(x, 40, 4);
        x.drop(20);
        T.due("15 five come", x.begin(), 5);
        x.set(0, PAIRS);
        T.due("15 the new name, whatever the policy is by now", x.finish(), 6);
        T.due("15 three are left", x.count(2), 3);
        T.all("15 it stands where the first stood", 1, x.told(0, 6), x.told(1, 6) - 5, x.told(2, 6) - 4);
        T.all("15 in their order", 10, x.doc(1, 0, 0), x.doc(1, 1, 0) - 1, x.doc(1, 2, 0) - 11, x.doc(1, 3, 0) - 20,
            x.doc(1, 4, 0) - 21);
        T.all("15 none is dropped in it", 5, x.told(1, 0), x.told(1, 1));
        T.due("15 the dictionary has no word of those left out", x.told(1, 2), 4);
        T.due("15 places are new", x.word(1, 0, 2), 0 + 2);
        T.due("15 none is begun any more", x.finish(), Due.STATE);
        T.due("15 the next name", Due.segment(x, 60, 1), 7);
    }

    private static void finishMeanwhile() {
        LiveIndex x = new LiveIndex();
        Due.segment(x, 0, 2);
        Due.segment(x, 10, 2);
        Due.segment(x, 20, 2);
        x.drop(1);
        x.open(0);
        x.write();
        x.begin();
        x.drop(10);
        Due.add(x, 21, "new");
        Due.add(x, 22, "new");
        T.due("15 a segment meanwhile", x.flush(), 4);
        T.due("15 finished", x.finish(), 5);
        T.due("15 what came meanwhile stands behind", x.told(1, 6), 4);
        T.all("15 who was dropped meanwhile is dropped", 1, x.doc(0, 1, 1), x.doc(0, 4, 1));
        T.all("15 the others aren't", 0, x.doc(0, 0, 1), x.doc(0, 2, 1), x.doc(0, 3, 1));
        T.all("15 five came, three are live", 5, x.told(0, 0), x.told(0, 1) + 2);
        T.all("15 keys", 0, x.where(0), x.where(1) + 1, x.where(10) + 1, x.where(20) - 3, x.where(21) - 100);
        T.due("15 the old ones are held", x.count(3), 5);
        T.due("15 by the written, too", x.shut(0), 5);
        x.commit();
        T.due("15 a crash brings them back", x.crash(), 3);
        T.all("15 as they were written", 0, x.doc(0, 1, 1) - 1, x.doc(1, 0, 1), x.doc(2, 1, 1));
    }

    private static void finishEmpty() {
        LiveIndex x = new LiveIndex();
        Due.segment(x, 0, 4);
        Due.segment(x, 10, 1);
        Due.segment(x, 20, 1);
        Due.segment(x, 30, 1);
        Due.segment(x, 40, 4);
        x.drop(10);
        x.drop(20);
        x.drop(30);
        T.due("15 none comes", x.begin(), 0);
        T.due("15 nothing stands there", x.finish(), 0);
        T.all("15 two are left", 2, x.count(2), x.told(0, 6) + 1, x.told(1, 6) - 3);
        T.due("15 no name was told", Due.segment(x, 50, 1), 6);
        x = new LiveIndex();
        Due.segment(x, 0, 1);
        Due.segment(x, 1, 1);
        Due.segment(x, 2, 1);
        T.due("15 three come", x.begin(), 3);
        x.drop(0);
        x.drop(1);
        x.drop(2);
        T.due("15 they come dropped", x.finish(), 4);
        T.all("15 all dropped", 3, x.told(0, 0), x.told(0, 1) + 3);
    }

    private static void leave() {
        LiveIndex x = new LiveIndex();
        T.due("16 none is begun", x.leave(), Due.STATE);
        Due.segment(x, 0, 1);
        Due.segment(x, 1, 1);
        Due.segment(x, 2, 1);
        x.begin();
        x.drop(0);
        T.due("16 begun no more", x.leave(), 1);
        T.all("16 all stand as they stood", 3, x.count(2), x.told(2, 6));
        T.all("16 none is", Due.STATE, x.leave(), x.finish());
        T.due("16 it can be begun anew, with fewer", x.begin(), 2);
        x.crash();
        T.all("16 none behind a crash", Due.STATE, x.leave(), x.finish());
    }

    private static void dueCheapest(String name, LiveIndex x, int cost, int first) {
        T.due("17 " + name + ": cost", x.cheapest(0), cost);
        T.due("17 " + name + ": first", x.cheapest(1), first);
    }

    private static LiveIndex ofSizes(int... sizes) {
        LiveIndex x = new LiveIndex();
        for (int i = 0; i < sizes.length; i++) Due.segment(x, 10 * i, sizes[i]);
        return x;
    }

    private static void cheapest() {
        LiveIndex x = ofSizes();
        T.all("17 BAD", Due.BAD, x.cheapest(-1), x.cheapest(2), x.cheapest(Due.LEAST), x.cheapest(Due.MOST));
        dueCheapest("none", x, 0, Due.NONE);
        dueCheapest("one", ofSizes(4), 0, Due.NONE);
        dueCheapest("two", ofSizes(4, 1), 5, 1);
        dueCheapest("three, the small ones first", ofSizes(4, 1, 2), 3 + 7, 1);
        dueCheapest("three, the small ones first", ofSizes(1, 2, 4), 3 + 7, 2);
        dueCheapest("three alike: the least first", ofSizes(2, 2, 2), 4 + 6, 1);
        dueCheapest("four alike", ofSizes(1, 1, 1, 1), 2 + 2 + 4, 2);
        dueCheapest("five", ofSizes(4, 1, 1, 1, 4), 2 + 3 + 7 + 11, 1);
        dueCheapest("eight alike", ofSizes(1, 1, 1, 1, 1, 1, 1, 1), 24, 4);
        x = ofSizes(1, 1, 1);
        for (int i = 0; i < 3; i++) x.drop(10 * i);
        dueCheapest("all dropped", x, 0, 1);
        x = ofSizes(1, 4, 4);
        x.drop(20);
        x.drop(21);
        x.drop(22);
        dueCheapest("dropped ones cost nothing", x, 5 + 6, 1);
    }
}
