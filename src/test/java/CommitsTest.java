/** Promises 18 to 20. */
public final class CommitsTest {
    private static final Due T = new Due("commits");

    public static void main(String[] args) {
        write();
        commit();
        crash();
        crashBringsBack();
        T.end();
    }

    private static void write() {
        LiveIndex x = new LiveIndex();
        T.due("18 none", x.write(), 0);
        Due.segment(x, 0, 2);
        Due.segment(x, 10, 2);
        Due.add(x, 20, "a");
        T.due("18 two", x.write(), 2);
        T.due("18 the commit isn't changed", x.count(4), 0);
        x.drop(0);
        x.flush();
        T.due("18 three", x.write(), 3);
        T.due("18 the later one is written", x.commit(), 3);
        x.crash();
        T.due("18 with its drops", x.doc(0, 0, 1), 1);
        x = new LiveIndex();
        for (int i = 0; i < 8; i++) Due.segment(x, i, 1);
        T.due("18 eight", x.write(), 8);
    }

    private static void commit() {
        LiveIndex x = new LiveIndex();
        T.due("19 nothing is written", x.commit(), Due.STATE);
        x.write();
        T.due("19 nothing, but written", x.commit(), 0);
        T.due("19 nothing is written then", x.commit(), Due.STATE);
        Due.segment(x, 0, 2);
        x.write();
        Due.segment(x, 10, 1);
        x.drop(1);
        T.due("19 as it was written", x.commit(), 1);
        T.all("19 counted", 1, x.count(4), x.told(0, 8), x.told(1, 8) + 1);
        T.due("19 nothing is written then", x.commit(), Due.STATE);
        T.due("19 the commit stays", x.count(4), 1);
        T.due("19 crash", x.crash(), 1);
        T.due("19 who was dropped behind the write isn't", x.where(1), 1);
    }

    private static void crash() {
        LiveIndex x = new LiveIndex();
        Due.segment(x, 0, "a", "a b");
        Due.segment(x, 10, "b");
        x.write();
        x.commit();
        Due.ask(x, "a");
        x.look(0, 0);
        x.set(0, 1);
        x.set(1, 4);
        x.set(2, 77);
        x.sheet(0, 1, 2);
        x.open(0);
        x.open(3);
        x.begin();
        x.drop(0);
        Due.segment(x, 20, 1);
        Due.add(x, 30, "a");
        x.write();
        Due.feed(x, "abc");
        T.due("20 as many as the commit has", x.crash(), 2);
        T.due("20 the buffer is empty", x.count(1), 0);
        T.due("20 three are live", x.count(0), 3);
        T.due("20 who was dropped since isn't", x.where(0), 0);
        T.due("20 nothing is written", x.commit(), Due.STATE);
        T.due("20 no merge", x.count(8), 0);
        T.due("20 no view", x.count(5), 0);
        T.all("20 no view", Due.STATE, x.shut(0), x.shut(3), x.found(0, 0, 0));
        T.due("20 queries stay", x.count(6), 1);
        T.due("20 the tape stays", x.count(7), 3);
        T.all("20 the log stays", 1, x.count(9), x.count(10));
        T.all("20 the policy and the limit stay", 0, x.set(0, 0) - 1, x.set(1, 0) - 4, x.set(2, 9999) - 77);
        T.due("20 sheets stay", x.cell(0, 1, 1), 1);
        T.due("20 the commit stays", x.count(4), 2);
        T.due("20 two are held", x.count(3), 2);
        x.crash();
        T.due("20 a second time", x.count(2), 2);
        x.add(5);
        T.due("20 names go on", x.flush(), 4);
    }

    private static void crashBringsBack() {
        LiveIndex x = new LiveIndex();
        Due.segment(x, 0, 2);
        Due.segment(x, 10, 2);
        Due.segment(x, 20, 2);
        x.drop(20);
        x.write();
        x.commit();
        x.begin();
        x.finish();
        T.all("20 merged", 1, x.count(2), x.told(0, 6) - 3);
        T.due("20 the old ones and the new one are held", x.count(3), 4);
        T.due("20 the old ones come back", x.crash(), 3);
        T.all("20 with their names", 1, x.told(0, 6), x.told(1, 6) - 1, x.told(2, 6) - 2);
        T.all("20 and drops", 1, x.doc(2, 0, 1), x.told(2, 1));
        T.due("20 three are held", x.count(3), 3);
        x.drop(0);
        T.due("20 a drop leaves the commit as it is", x.crash(), 3);
        T.due("20 it isn't dropped", x.where(0), 0);
        T.due("20 merged anew", x.begin(), 5);
        T.due("20 by a new name", x.finish(), 5);
        x = new LiveIndex();
        Due.segment(x, 0, 2);
        T.due("20 no commit: no segments", x.crash(), 0);
        T.due("20 nothing is live", x.count(0), 0);
    }
}
