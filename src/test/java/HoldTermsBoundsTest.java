/** The boundary sentences of the Terms, parts 2 and 3: merges, views, commits, who holds, the cheapest way, the log, told. */
public final class HoldTermsBoundsTest {
    private static final Due T = new Due("hold terms' bounds");
    private static final int PAIRS = 1, EAGER = 3, NEVER = 5;

    public static void main(String[] args) {
        noMerge();
        mergeKnows();
        mergeAllDropped();
        mergeStands();
        mergeMeanwhile();
        mergeOfMost();
        viewStays();
        writtenStays();
        firstCommit();
        crashed();
        crashKeeps();
        held();
        heldAtMost();
        cheapest();
        cheapestFirst();
        silence();
        lookNumbers();
        logKeeps();
        logOrder();
        lookHolds();
        told();
        toldBits();
        sheets();
        T.end();
    }

    private static LiveIndex ofSizes(int... sizes) {
        LiveIndex x = new LiveIndex();
        for (int i = 0; i < sizes.length; i++) Due.segment(x, 4 * i, sizes[i]);
        return x;
    }

    private static int[] names(LiveIndex x) {
        int[] names = new int[x.count(2)];
        for (int s = 0; s < names.length; s++) names[s] = x.told(s, 6);
        return names;
    }

    private static int[] keys(LiveIndex x, int segment) {
        int[] keys = new int[x.told(segment, 0)];
        for (int i = 0; i < keys.length; i++) keys[i] = x.doc(segment, i, 0);
        return keys;
    }

    private static int[] dropped(LiveIndex x, int segment) {
        int[] bits = new int[x.told(segment, 0)];
        for (int i = 0; i < bits.length; i++) bits[i] = x.doc(segment, i, 1);
        return bits;
    }

    private static void noMerge() {
        T.sentence("A MERGE is begun, or none is (none, at first)");
        LiveIndex x = new LiveIndex();
        T.all("none", 0, x.count(8), x.finish() - Due.STATE, x.leave() - Due.STATE);
        x = ofSizes(1, 1, 1);
        x.begin();
        T.all("begun", 1, x.count(8), x.leave(), x.count(8) + 1);
        x.begin();
        T.all("begun anew", 1, x.count(8), x.finish() - 3, x.count(8) + 1);
        x = ofSizes(1, 1, 1);
        x.begin();
        x.crash();
        T.due("none behind a crash", x.count(8), 0);
    }

    private static void mergeKnows() {
        T.sentence("and knows who of them wasn't DROPPED then: those come ..., in their order, DROPPED those that are by now");
        for (int bits = 0; bits < 64; bits++) {
            LiveIndex x = ofSizes(2, 2, 2);
            int[] keys = {0, 1, 4, 5, 8, 9};
            java.util.List<Integer> come = new java.util.ArrayList<>();
            for (int i = 0; i < 6; i++) {
                if ((bits >> i & 1) == 1) x.drop(keys[i]);
                else come.add(keys[i]);
            }
            T.due("how many come, without " + bits, x.begin(), come.size());
            for (int i = 0; i < come.size(); i += 2) x.drop(come.get(i));
            T.due("finished", x.finish(), come.isEmpty() ? 0 : 4);
            T.due("segments", x.count(2), come.isEmpty() ? 0 : 1);
            if (come.isEmpty()) continue;
            T.row("those", keys(x, 0), come.stream().mapToInt(k -> k).toArray());
            int[] now = new int[come.size()];
            for (int i = 0; i < now.length; i += 2) now[i] = 1;
            T.row("dropped", dropped(x, 0), now);
        }
    }

    private static void mergeAllDropped() {
        T.sentence("(if none comes, nothing stands there)");
        LiveIndex x = ofSizes(4, 1, 1, 1, 4);
        for (int key : new int[] {4, 8, 12}) x.drop(key);
        T.due("none comes", x.begin(), 0);
        T.due("a merge of none is begun all the same", x.count(8), 1);
        T.due("no name", x.finish(), 0);
        T.row("between others", names(x), 1, 5);
        T.due("none is begun then", x.count(8), 0);
        x = ofSizes(1, 1, 1);
        for (int key : new int[] {0, 4, 8}) x.drop(key);
        x.begin();
        Due.segment(x, 20, 1);
        T.due("no name", x.finish(), 0);
        T.row("what came meanwhile is the first", names(x), 4);
        x = ofSizes(1, 1, 1);
        x.begin();
        for (int key : new int[] {0, 4, 8}) x.drop(key);
        T.due("who came and is dropped by now comes", x.finish(), 4);
        T.row("all dropped", dropped(x, 0), 1, 1, 1);
    }

    private static void mergeStands() {
        T.sentence("the SEGMENTS of it go; where the first of them stood stands one that holds those that come");
        LiveIndex x = ofSizes(1, 1, 1, 4, 4, 4, 4, 4);
        x.begin();
        T.due("the first three", x.finish(), 9);
        T.row("names", names(x), 9, 4, 5, 6, 7, 8);
        x = ofSizes(4, 4, 1, 1, 1, 4, 4, 4);
        x.begin();
        x.finish();
        T.row("in the middle", names(x), 1, 2, 9, 6, 7, 8);
        x = ofSizes(4, 3, 4, 4, 4, 1, 1, 1);
        x.begin();
        x.finish();
        T.row("the last three", names(x), 1, 2, 3, 4, 5, 9);
        T.row("of these", keys(x, 5), 20, 24, 28);
        x = ofSizes(1, 1, 1, 2, 3, 4);
        for (int key : new int[] {0, 12, 17, 18, 20, 23}) x.drop(key);
        x.begin();
        x.finish();
        T.row("none is dropped in it", dropped(x, 0), 0, 0);
        T.row("those behind stay as they were", dropped(x, 1), 1, 0);
        T.row("those behind stay as they were", dropped(x, 2), 0, 1, 1);
        T.row("those behind stay as they were", dropped(x, 3), 1, 0, 0, 1);
        Due.segment(x, 50, 4);
        Due.segment(x, 60, 4);
        T.row("none is dropped in a new one", dropped(x, 4), 0, 0, 0, 0);
        T.row("none is dropped in a new one", dropped(x, 5), 0, 0, 0, 0);
    }

    private static void mergeMeanwhile() {
        T.sentence("It is of SEGMENTS (as CHOICE tells when it's begun) ... SEGMENTS that came meanwhile stand behind");
        LiveIndex x = ofSizes(3, 3, 3);
        x.begin();
        for (int i = 0; i < 5; i++) Due.segment(x, 40 + i, 1);
        T.due("by now another would be the choice", x.choice(0), 3);
        T.due("finished", x.finish(), 9);
        T.row("five stand behind", names(x), 9, 4, 5, 6, 7, 8);
        x = ofSizes(3, 3, 3);
        x.begin();
        x.set(0, NEVER);
        T.due("by now there would be none", x.choice(0), Due.NONE);
        Due.segment(x, 40, 4);
        Due.add(x, 0, "new");
        x.flush();
        T.due("finished", x.finish(), 6);
        T.row("who was replaced meanwhile is dropped", dropped(x, 0), 1, 0, 0, 0, 0, 0, 0, 0, 0);
        T.due("the newer one is live", x.where(0), 200);
    }

    private static void mergeOfMost() {
        T.sentence("64 at most in all SEGMENTS together; FINISHED: ... one that holds those that come");
        LiveIndex x = new LiveIndex();
        x.set(0, PAIRS);
        for (int key = 0; key < 64; key += 4) {
            Due.segment(x, key, 4);
            if (key % 16 == 12) Due.mergeAll(x);
        }
        T.due("64 documents in four segments", x.count(2), 4);
        x.set(0, 2);
        for (int key = 0; key < 64; key++) {
            if (key % 16 >= 14) x.drop(key);
        }
        T.due("14 and 14 and 14 come", x.begin(), 42);
        x.drop(0);
        x.drop(45);
        x.finish();
        T.row("42 and 16", new int[] {x.count(2), x.told(0, 0), x.told(0, 1), x.told(1, 0)}, 2, 42, 40, 16);
        T.all("the first and the last of it", 1, x.doc(0, 0, 1), x.doc(0, 41, 1), x.doc(0, 41, 0) - 44,
            x.doc(0, 42, 0) + 13);
    }

    /** What is told of a view by its queries. */
    private static int[] seen(LiveIndex x, int view) {
        int[] row = new int[3 * x.count(6) + 8];
        int n = 0;
        for (int q = 0; q < x.count(6); q++) {
            for (int what = 0; what < 3; what++) row[n++] = x.found(view, q, what);
        }
        for (int i = 0; i < 8; i++) row[n++] = x.found(view, 0, 10 + i);
        return row;
    }

    private static final Twins.Call[] COMES = {y -> y.drop(10), y -> y.dropBy(0), y -> Due.segment(y, 50, 2),
        y -> y.begin(), y -> y.drop(51), y -> y.finish(), y -> y.write(), y -> y.commit(), y -> y.open(2), y -> y.shut(2),
        y -> y.set(2, 0), y -> y.set(0, 4), y -> y.set(1, 9), y -> Due.add(y, 11, "a"), y -> y.flush()};

    private static void viewStays() {
        T.sentence("A VIEW that is open has SEGMENTS and who was DROPPED as all was when it was opened, whatever comes");
        for (int comes = 0; comes <= COMES.length; comes++) {
            LiveIndex x = new LiveIndex();
            Due.ask(x, "a*");
            Due.ask(x, "not a");
            x.open(3);
            int[] empty = seen(x, 3);
            for (int i = 0; i < 3; i++) Due.segment(x, 10 * i, "a", "a b", "c ab");
            x.drop(0);
            x.open(0);
            int[] whole = seen(x, 0);
            x.drop(1);
            x.open(1);
            int[] less = seen(x, 1);
            T.row("documents", new int[] {empty[0], whole[0], less[0]}, 0, 8, 7);
            for (int i = 0; i < comes; i++) COMES[i].on(x);
            T.row("an empty view, when " + comes + " came", seen(x, 3), empty);
            T.row("a view, when " + comes + " came", seen(x, 0), whole);
            T.row("a later view, when " + comes + " came", seen(x, 1), less);
            x.shut(0);
            T.row("the others, when one is shut", seen(x, 1), less);
            x.open(0);
            x.set(2, 9999);
            T.due("opened anew it is as all is now", x.found(0, 0, 0), x.look(0, 0));
            T.due("and not as it was", x.found(0, 0, 0) < whole[0] ? 1 : 0, 1);
        }
    }

    private static void writtenStays() {
        T.sentence("WRITTEN: likewise when it was written; THE COMMIT: what was WRITTEN when it was made");
        LiveIndex x = ofSizes(2, 2, 2);
        x.drop(0);
        x.write();
        x.drop(1);
        x.begin();
        x.finish();
        Due.segment(x, 40, 1);
        x.drop(5);
        T.due("as it was written", x.commit(), 3);
        x.drop(4);
        x.flush();
        T.due("as it was committed", x.crash(), 3);
        T.row("names", names(x), 1, 2, 3);
        T.row("dropped", dropped(x, 0), 1, 0);
        T.row("dropped", dropped(x, 1), 0, 0);
        x.drop(8);
        x.write();
        x.drop(9);
        x.write();
        T.due("the later one is written", x.commit(), 3);
        x.crash();
        T.row("with both", dropped(x, 2), 1, 1);
    }

    private static void firstCommit() {
        T.sentence("THE COMMIT ... (at first: no SEGMENTS)");
        LiveIndex x = new LiveIndex();
        T.all("none", 0, x.count(4), x.crash());
        x = ofSizes(4, 4);
        x.write();
        T.all("written isn't committed", 0, x.count(4), x.told(0, 8), x.crash(), x.count(2), x.count(0));
        x = ofSizes(1, 1, 1, 1, 1, 1, 1, 1);
        x.write();
        T.all("eight", 8, x.commit(), x.count(4), x.crash(), x.count(2));
    }

    private static void crashed() {
        T.sentence("A CRASH: SEGMENTS and who is DROPPED are as in THE COMMIT; THE BUFFER is empty; nothing is WRITTEN; "
            + "no MERGE is begun; no VIEW is open");
        LiveIndex x = new LiveIndex();
        Twins.RICH.tell(x);
        T.due("three segments", x.crash(), 3);
        T.row("names", names(x), 1, 2, 3);
        T.row("as in the commit", dropped(x, 0), 0, 1);
        T.row("dropped behind it", dropped(x, 1), 0);
        T.row("dropped behind it", dropped(x, 2), 0, 0);
        T.row("buffer, merge, views", new int[] {x.count(1), x.count(8), x.count(5)}, 0, 0, 0);
        T.all("all is refused", Due.STATE, x.flush(), x.commit(), x.finish(), x.leave(), x.shut(1), x.shut(3),
            x.found(1, 0, 0));
        T.row("three are held, four are live", new int[] {x.count(3), x.count(0)}, 3, 4);
        x = new LiveIndex();
        Due.add(x, 0, "a");
        for (int view = 0; view < 4; view++) x.open(view);
        x.write();
        T.all("of nothing", 0, x.crash(), x.count(0), x.count(1), x.count(3), x.count(5));
        T.due("all views are shut", x.open(0) + x.open(1) + x.open(2) + x.open(3), 0);
    }

    private static void crashKeeps() {
        T.sentence("(QUERIES, THE TAPE, THE POLICY, NAMES told ever, THE LOG stay)");
        LiveIndex x = new LiveIndex();
        Twins.RICH.tell(x);
        x.crash();
        T.row("queries, tape, looks", new int[] {x.count(6), x.count(7), x.count(9)}, 3, 5, 3);
        T.row("log", new int[] {x.count(10), x.count(11), x.count(12), x.count(13)}, 2, 3, 1, Due.NONE);
        T.row("policy, limit", new int[] {x.set(0, 0), x.set(1, 0), x.set(2, 9999)}, 3, 4, 50);
        T.due("the tape's words", x.add(0), 2);
        T.due("names", x.flush(), 4);
        T.due("the query", x.look(0, 0), 3);
        T.due("sheets, too", x.cell(1, 2, 0), 1);
    }

    private static void held() {
        T.sentence("HELD are SEGMENTS that stand now, or stand in a VIEW that is open, in what is WRITTEN, in THE COMMIT, "
            + "each NAME once");
        LiveIndex x = new LiveIndex();
        T.due("none", x.count(3), 0);
        x = ofSizes(1, 1, 1);
        T.due("that stand now", x.count(3), 3);
        for (int view = 0; view < 4; view++) x.open(view);
        x.write();
        x.commit();
        x.write();
        T.due("each once", x.count(3), 3);
        x.begin();
        x.finish();
        T.due("and the new one", x.count(3), 4);
        T.row("by one more view, and another", new int[] {x.shut(0), x.shut(1), x.shut(2), x.shut(3)}, 4, 4, 4, 4);
        x.write();
        T.due("by the commit", x.count(3), 4);
        x.commit();
        T.due("by none any more", x.count(3), 1);
        Due.segment(x, 40, 1);
        Due.segment(x, 50, 1);
        x.write();
        x.set(0, PAIRS);
        x.begin();
        x.finish();
        T.due("by what is written: 5 and 6, and 4 and 7 stand", x.count(3), 4);
        x.crash();
        T.due("by what is written no more", x.count(3), 1);
    }

    /** Drops all and merges pairs till nothing stands: where none comes nothing stands. */
    private static void clear(LiveIndex x) {
        x.set(0, PAIRS);
        for (int key = 0; key < 8; key++) x.drop(key);
        while (x.begin() == 0) x.finish();
        T.due("nothing stands", x.count(2), 0);
    }

    /** 4 views, what is written and the commit each of 8 segments of their own, and 8 that stand now. */
    private static void heldAtMost() {
        T.sentence("HELD ...: VIEWS 0 .. 3, what is WRITTEN, THE COMMIT, SEGMENTS (8 at most)");
        LiveIndex x = new LiveIndex();
        for (int round = 0; round < 7; round++) {
            clear(x);
            for (int i = 0; i < 8; i++) Due.segment(x, i, 1);
            if (round < 4) x.open(round);
            if (round == 4) {
                x.write();
                x.commit();
            }
            if (round == 5) x.write();
        }
        T.due("56", x.count(3), 56);
        T.row("less and less", new int[] {x.shut(2), x.shut(0), x.shut(3), x.shut(1)}, 48, 40, 32, 24);
        T.due("what is written is committed", x.commit(), 8);
        T.due("16", x.count(3), 16);
        x.crash();
        T.due("8", x.count(3), 8);
    }

    private static void dueCheapest(String name, LiveIndex x, int cost, int first) {
        T.row(name, new int[] {x.cheapest(0), x.cheapest(1)}, cost, first);
    }

    private static void cheapest() {
        T.sentence("CHEAPEST: SEGMENTS are merged two neighbours at a time, till one is left; ... the least that all cost, "
            + "together (0, if there are fewer than two)");
        dueCheapest("none", ofSizes(), 0, Due.NONE);
        dueCheapest("one", ofSizes(4), 0, Due.NONE);
        dueCheapest("two", ofSizes(1, 1), 2, 1);
        dueCheapest("three", ofSizes(1, 1, 1), 5, 1);
        dueCheapest("eight", ofSizes(4, 4, 4, 4, 4, 4, 4, 4), 96, 4);
        dueCheapest("eight, not alike", ofSizes(1, 4, 1, 4, 1, 4, 1, 4), 20 + 10 + 10 + 20, 4);
        LiveIndex x = ofSizes(4, 4);
        for (int key = 0; key < 8; key++) x.drop(key);
        dueCheapest("two of nothing", x, 0, 1);
        x = ofSizes(4, 1);
        x.drop(4);
        dueCheapest("only those that aren't dropped", x, 4, 1);
        x = ofSizes(4);
        Due.add(x, 50, "a");
        dueCheapest("the buffer is no segment", x, 0, Due.NONE);
    }

    private static void cheapestFirst() {
        T.sentence("how many of the SEGMENTS stand in the first of the last two (the least such, of all ways that cost "
            + "least; NONE)");
        dueCheapest("all ways cost alike", ofSizes(2, 2, 2), 10, 1);
        dueCheapest("1 or 2, the least", ofSizes(1, 1, 1), 5, 1);
        dueCheapest("only 2", ofSizes(1, 1, 3), 7, 2);
        dueCheapest("only 1", ofSizes(3, 1, 1), 7, 1);
        dueCheapest("the last alone", ofSizes(1, 1, 1, 4), 2 + 3 + 7, 3);
        dueCheapest("the first alone", ofSizes(4, 1, 1, 1), 2 + 3 + 7, 1);
        dueCheapest("5 of like ones: 2 or 3, the least", ofSizes(1, 1, 1, 1, 1), 2 + 2 + 3 + 5, 2);
        dueCheapest("6 of like ones: 2, 3 or 4", ofSizes(1, 1, 1, 1, 1, 1), 2 + 2 + 2 + 4 + 6, 2);
        dueCheapest("7 of like ones: 3 or 4", ofSizes(1, 1, 1, 1, 1, 1, 1), 2 + 2 + 2 + 3 + 4 + 7, 3);
        LiveIndex x = ofSizes(1, 1, 1, 1);
        for (int key = 0; key < 16; key += 4) x.drop(key);
        dueCheapest("all cost nothing: the least of all", x, 0, 1);
    }

    private static void silence() {
        T.sentence("SILENCE of a QUERY: of DOCUMENTS that would be FOUND now, how many must be DROPPED, at least, that "
            + "WORTH of all that are FOUND, together, is n or less");
        LiveIndex x = new LiveIndex();
        Due.ask(x, "a");
        T.all("none is found", 0, x.silence(0, 0), x.silence(0, 999));
        Due.segment(x, 0, "a a", "a", "b", "a a a");
        int[] want = {3, 2, 2, 1, 1, 1, 0, 0};
        for (int n = 0; n < want.length; n++) T.due("to " + n, x.silence(0, n), want[n]);
        Due.segment(x, 10, "a a a");
        T.row("just n and one less", new int[] {x.silence(0, 9), x.silence(0, 8), x.silence(0, 6), x.silence(0, 5)},
            0, 1, 1, 2);
        LiveIndex y = new LiveIndex();
        Due.fill(y, 64, "a");
        Due.ask(y, "a");
        T.row("64 of worth 1", new int[] {y.silence(0, 0), y.silence(0, 1), y.silence(0, 63), y.silence(0, 64)},
            64, 63, 1, 0);
        LiveIndex z = new LiveIndex();
        Due.ask(z, "a*or a*or a*or a*or a*or a*or a*or a*or a*or a*or a*or a*or a*");
        Due.fill(z, 8, "a a a a a a a a a a a a");
        T.row("8 of worth 156", new int[] {z.silence(0, 999), z.silence(0, 936), z.silence(0, 935), z.silence(0, 0)},
            2, 2, 3, 8);
    }

    private static LiveIndex asked() {
        LiveIndex x = new LiveIndex();
        Due.segment(x, 0, "a", "a b");
        Due.ask(x, "a");
        Due.ask(x, "b or b");
        return x;
    }

    private static void lookNumbers() {
        T.sentence("A LOOK is opened for one question alone, numbered 1, 2, .. ever, and shut behind it, whatever comes");
        LiveIndex x = asked();
        T.row("none", new int[] {x.count(9), x.count(10)}, 0, Due.NONE);
        x.look(0, 0);
        T.row("1", new int[] {x.count(9), x.count(10), x.count(11)}, 1, 1, Due.NONE);
        x.set(2, 0);
        x.look(0, 0);
        T.row("2, though DEAR", new int[] {x.count(9), x.count(10), x.count(11), x.count(12)}, 2, 2, 1, Due.NONE);
        x.crash();
        x.look(0, 0);
        T.row("3 behind a crash", new int[] {x.count(9), x.count(10)}, 3, 3);
        x.look(2, 0);
        x.look(0, 3);
        T.row("none by BAD", new int[] {x.count(9), x.count(10)}, 3, 3);
        for (int i = 0; i < 100; i++) x.look(0, 0);
        T.row("103", new int[] {x.count(9), x.count(10), x.count(17)}, 103, 103, 96);
    }

    private static int[] log(LiveIndex x) {
        int[] log = new int[8];
        for (int i = 0; i < 8; i++) log[i] = x.count(10 + i);
        return log;
    }

    private static void logKeeps() {
        T.sentence("Each that is shut is written behind THE LOG (the last 8 are kept)");
        LiveIndex x = asked();
        T.row("none", log(x), -1, -1, -1, -1, -1, -1, -1, -1);
        for (int i = 0; i < 7; i++) x.look(0, 0);
        T.row("7", log(x), 7, 6, 5, 4, 3, 2, 1, -1);
        x.look(0, 0);
        T.row("8", log(x), 8, 7, 6, 5, 4, 3, 2, 1);
        x.look(0, 0);
        T.row("9", log(x), 9, 8, 7, 6, 5, 4, 3, 2);
        x.both(0, 1, 0);
        T.row("11", log(x), 10, 11, 9, 8, 7, 6, 5, 4);
        x = asked();
        for (int i = 0; i < 7; i++) x.look(0, 0);
        x.both(0, 1, 0);
        T.row("two more than 7", log(x), 8, 9, 7, 6, 5, 4, 3, 2);
    }

    private static void logOrder() {
        T.sentence("who opens two shuts the later first");
        LiveIndex x = asked();
        x.both(0, 1, 0);
        T.row("two", log(x), 1, 2, -1, -1, -1, -1, -1, -1);
        x.set(2, 2);
        x.both(0, 0, 0);
        T.row("two, none DEAR", log(x), 3, 4, 1, 2, -1, -1, -1, -1);
        x.set(2, 1);
        x.both(0, 1, 0);
        T.row("one, as it was DEAR", log(x), 5, 3, 4, 1, 2, -1, -1, -1);
        x = asked();
        x.drop(0);
        Due.ask(x, "q");
        x.set(2, 1);
        x.both(2, 0, 0);
        T.row("two, the other was DEAR", log(x), 1, 2, -1, -1, -1, -1, -1, -1);
    }

    private static void lookHolds() {
        T.sentence("A LOOK holds SEGMENTS as they are (and is shut behind its question)");
        LiveIndex x = asked();
        x.look(0, 0);
        x.both(0, 1, 0);
        x.drop(0);
        T.due("as they are", x.look(0, 0), 1);
        x.drop(1);
        x.set(0, EAGER);
        x.set(1, 9);
        Due.segment(x, 5, 1);
        x.begin();
        x.finish();
        T.due("no look holds what went", x.count(3), 1);
        T.due("as they are", x.look(0, 10), 5);
    }

    /** Query 0 finds 1, 3, 2 (in this order) in views 0 and 1, 1, 2 in view 2; query 1 finds none; query 2 as query 0. */
    private static LiveIndex tellable() {
        LiveIndex x = new LiveIndex();
        Due.segment(x, 1, "a a a", "a", "a a");
        for (String text : new String[] {"a", "q", "a*", "not q", "a and not b", "a or a"}) Due.ask(x, text);
        x.open(0);
        x.open(1);
        x.drop(3);
        x.open(2);
        return x;
    }

    private static void row(LiveIndex x, int sheet, int sort, int... keys) {
        x.sheet(sheet, sort, keys.length);
        for (int i = 0; i < keys.length; i++) x.cell(sheet, i, keys[i]);
    }

    private static void told() {
        T.sentence("TOLD: ... the first place that is otherwise, or is too much, or too little; NONE");
        int[][] rows = {{}, {1}, {1, 3}, {1, 3, 2}, {1, 3, 2, 0}, {1, 3, 2, 2}, {0, 3, 2}, {1, 2, 3}, {1, 3, 1}, {3, 1, 2},
            {1, 3, 9, 9}, {2}};
        int[] want = {0, 1, 2, Due.NONE, 3, 3, 0, 1, 2, 0, 2, 0};
        int[] ofNone = {Due.NONE, 0, 0, 0, 0, 0, 0, 0, 0, 0, 0, 0};
        LiveIndex x = tellable();
        for (int sort = 0; sort < 2; sort++) {
            for (int i = 0; i < rows.length; i++) {
                row(x, 3, sort, rows[i]);
                T.due("row #" + i, x.tells(3, 0, 0, 0), want[i]);
                T.due("row #" + i + ", none is found", x.tells(3, 0, 1, 0), ofNone[i]);
            }
        }
        row(x, 0, 1, 257, 3, 2);
        T.due("an int isn't its lowest bits", x.tells(0, 0, 0, 0), 0);
        row(x, 0, 0, 257, 259, 258);
        T.due("a byte is", x.tells(0, 0, 0, 0), Due.NONE);
    }

    private static void toldBits() {
        T.sentence("QUERIES (bits) by which it is just so in that VIEW; VIEWS (bits) in which it is just so by that QUERY");
        LiveIndex x = tellable();
        row(x, 0, 0, 1, 3, 2);
        T.row("queries", new int[] {x.tells(0, 0, 0, 1), x.tells(0, 1, 1, 1), x.tells(0, 2, 0, 1)},
            1 | 4 | 16 | 32, 1 | 4 | 16 | 32, 0);
        T.row("views", new int[] {x.tells(0, 0, 0, 2), x.tells(0, 2, 5, 2), x.tells(0, 0, 1, 2)}, 3, 3, 0);
        row(x, 0, 0, 1, 2);
        T.row("of the later view", new int[] {x.tells(0, 2, 0, 2), x.tells(0, 2, 0, 1), x.tells(0, 0, 3, 1)},
            4, 1 | 4 | 8 | 16 | 32, 0);
        row(x, 0, 1);
        T.row("of none", new int[] {x.tells(0, 0, 1, 1), x.tells(0, 0, 1, 2), x.tells(0, 0, 0, 2)}, 2, 7, 0);
        row(x, 0, 1, 1, 2, 3);
        T.row("as they stand, by not q", new int[] {x.tells(0, 0, 3, 1), x.tells(0, 0, 3, 2)}, 8, 3);
        x.open(3);
        x.shut(0);
        row(x, 0, 1);
        T.row("those that aren't open don't count", new int[] {x.tells(0, 3, 1, 2), x.tells(0, 3, 1, 1)}, 14, 2);
    }

    private static void sheets() {
        T.sentence("SHEETS 0 .. 3 are rows of numbers, or missing (as all are at first): of sort 0 bytes, 1 ints");
        LiveIndex x = new LiveIndex();
        T.all("missing", Due.NOTHING, x.cell(0, 0, 0), x.cell(1, 0, 0), x.cell(2, 0, 0), x.cell(3, 0, 0));
        T.all("no such ones", Due.BAD, x.cell(-1, 0, 0), x.cell(4, 0, 0), x.sheet(-1, 0, 0), x.sheet(4, 0, 0));
        for (int sheet = 0; sheet < 4; sheet++) {
            T.all("no such sorts", Due.BAD, x.sheet(sheet, -2, 0), x.sheet(sheet, 2, 0));
            T.all("all sorts", 1, x.sheet(sheet, 1, 1), x.cell(sheet, 0, 0), x.sheet(sheet, 0, 1), x.cell(sheet, 0, 0),
                x.sheet(sheet, -1, 1));
            T.due("missing again", x.cell(sheet, 0, 0), Due.NOTHING);
        }
    }
}
