/** The boundary sentences of promises 18 to 20, and that what they refuse changes nothing. */
public final class CommitsBoundsTest {
    private static final Due T = new Due("commits' bounds");

    public static void main(String[] args) {
        write();
        commit();
        commitState();
        crash();
        T.end();
    }

    private static LiveIndex ofSegments(int n) {
        LiveIndex x = new LiveIndex();
        for (int key = 0; key < n; key++) Due.segment(x, key, 1);
        return x;
    }

    private static void write() {
        T.sentence("18 write: All SEGMENTS as they are are WRITTEN: how many");
        for (int n = 0; n <= 8; n++) {
            LiveIndex x = ofSegments(n);
            Due.add(x, 50, "a");
            T.row(n + " segments", new int[] {x.write(), x.count(4), x.write(), x.commit(), x.count(4)}, n, 0, n, n, n);
        }
        LiveIndex x = ofSegments(8);
        x.write();
        x.begin();
        x.finish();
        x.write();
        T.row("the later one is written", new int[] {x.commit(), x.crash(), x.told(0, 6)}, 6, 6, 9);
        LiveIndex y = ofSegments(2);
        y.write();
        y.commit();
        y.drop(0);
        y.drop(1);
        y.set(0, 1);
        y.begin();
        y.finish();
        T.row("what has no segments is written, too", new int[] {y.count(2), y.write(), y.commit(), y.crash()}, 0, 0, 0, 0);
    }

    private static void commit() {
        T.sentence("19 commit: What is WRITTEN is THE COMMIT, nothing is WRITTEN then: how many SEGMENTS it has");
        for (int n = 0; n <= 8; n++) {
            LiveIndex x = ofSegments(n);
            x.write();
            T.row(n + " segments", new int[] {x.commit(), x.commit(), x.count(4), x.crash(), x.count(3)}, n, Due.STATE, n, n, n);
        }
        LiveIndex x = ofSegments(3);
        x.write();
        for (int key = 0; key < 3; key++) x.drop(key);
        Due.segment(x, 3, 1);
        x.commit();
        x.write();
        T.row("as it was written", new int[] {x.count(4), x.crash(), x.count(0)}, 3, 3, 3);
    }

    private static void commitState() {
        T.sentence("19 commit: STATE: nothing is");
        Twins.refused(T, "never written", Twins.NEW, x -> x.commit(), Due.STATE);
        Twins.refused(T, "segments stand", x -> Due.segment(x, 0, 2), x -> x.commit(), Due.STATE);
        Twins.refused(T, "committed", Twins.then(Twins.RICH, x -> x.commit()), x -> x.commit(), Due.STATE);
        Twins.refused(T, "crashed", Twins.then(Twins.RICH, x -> x.crash()), x -> x.commit(), Due.STATE);
    }

    private static void crash() {
        T.sentence("20 crash: A CRASH: how many SEGMENTS there are then");
        LiveIndex x = new LiveIndex();
        T.all("a new object", 0, x.crash(), x.crash());
        for (int n = 0; n <= 8; n++) {
            LiveIndex y = ofSegments(n);
            y.write();
            T.due("only written", y.crash(), 0);
            y = ofSegments(n);
            y.write();
            y.commit();
            if (n < 8) Due.segment(y, 50, 1);
            T.row(n + " committed", new int[] {y.crash(), y.count(2), y.crash(), y.count(4)}, n, n, n, n);
        }
        LiveIndex z = ofSegments(8);
        z.write();
        z.commit();
        Due.mergeAll(z);
        T.row("fewer by now, all come back by their names", new int[] {z.count(2), z.crash(), z.told(0, 6), z.told(7, 6)},
            4, 8, 1, 8);
        Twins.alike(T, "a second crash changes nothing", Twins.then(Twins.RICH, y -> {
            y.crash();
            y.crash();
        }), Twins.then(Twins.RICH, y -> y.crash()));
    }
}
