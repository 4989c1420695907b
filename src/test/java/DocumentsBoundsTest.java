/** The boundary sentences of promises 1 to 7, and that what they refuse changes nothing. */
public final class DocumentsBoundsTest {
    private static final Due T = new Due("documents' bounds");
    /** 60 documents in segments with keys 0 .. 59, and more in the buffer. */
    private static final Twins.Story SIXTY = x -> {
        Due.fill(x, 60, "a");
        Due.mergeAll(x);
    };
    private static final Twins.Story EIGHT = x -> {
        for (int key = 0; key < 8; key++) Due.segment(x, key, 1);
    };

    public static void main(String[] args) {
        newObject();
        lastCall();
        feedBad();
        feedFull();
        feedOrder();
        addEmptiesTape();
        addReplaces();
        addBad();
        addFull();
        addFaults();
        drop();
        dropBad();
        dropBy();
        dropByBad();
        flush();
        flushState();
        flushFull();
        where();
        whereBad();
        T.end();
    }

    private static void newObject() {
        T.sentence("1 LiveIndex(): No DOCUMENT, no SEGMENT, no QUERY; DEAR is nothing (LIMIT 9999)");
        LiveIndex x = new LiveIndex();
        for (int what = 0; what < 10; what++) T.due("count(" + what + ")", x.count(what), 0);
        for (int what = 10; what < 18; what++) T.due("count(" + what + ")", x.count(what), Due.NONE);
        for (int key = 0; key < 100; key++) T.due("where(" + key + ")", x.where(key), Due.NONE);
        T.all("no segment, no query", Due.BAD, x.told(0, 0), x.doc(0, 0, 0), x.word(0, 0, 0), x.look(0, 0), x.dropBy(0));
        T.due("limit", x.set(2, 9999), 9999);
        Due.ask(x, "a*or a*or a*or a*or a*or a*or a*or a*or a*or a*or a*or a*or a*");
        for (int key = 0; key < 8; key++) Due.segment(x, key, "aa ab ac ad ae af ag ah ai aj ak al");
        T.row("a dear question isn't DEAR", new int[] {x.look(0, 1), x.look(0, 0)}, 8 * 12 * 13, 8);
    }

    private static void lastCall() {
        T.sentence("An object is used for at most 512 calls after it has been made");
        LiveIndex x = new LiveIndex();
        Due.segment(x, 0, 1);
        Due.ask(x, "a");
        for (int calls = 5; calls < 511; calls++) x.look(0, 0);
        T.row("the 512th", new int[] {x.count(10)}, 506);
    }

    private static void feedBad() {
        T.sentence("2 feed: n bytes (1 .. 5), a, b, .. (all 0 .. 255, also those that are not asked) ... BAD");
        Twins.refused(T, "n", Twins.RICH, Due.BAD, x -> x.feed(0, 97, 97, 97, 97, 97), x -> x.feed(6, 97, 97, 97, 97, 97),
            x -> x.feed(-1, 97, 97, 97, 97, 97), x -> x.feed(Due.LEAST, 0, 0, 0, 0, 0), x -> x.feed(Due.MOST, 0, 0, 0, 0, 0));
        for (int n = 1; n <= 5; n++) {
            for (int place = 0; place < 5; place++) {
                for (int v : new int[] {-1, 256}) {
                    int[] b = {97, 97, 97, 97, 97};
                    b[place] = v;
                    int asked = n;
                    Twins.refused(T, v + " at " + place + " of " + n, Twins.RICH,
                        x -> x.feed(asked, b[0], b[1], b[2], b[3], b[4]), Due.BAD);
                }
            }
            T.due("0", new LiveIndex().feed(n, 0, 0, 0, 0, 0), n);
            T.due("255", new LiveIndex().feed(n, 255, 255, 255, 255, 255), n);
        }
    }

    private static void feedFull() {
        T.sentence("2 feed: come behind THE TAPE: how many it has. ... FULL: they have no room");
        for (int had = 0; had <= 64; had++) {
            for (int n = 1; n <= 5; n++) {
                LiveIndex x = new LiveIndex();
                Due.feed(x, "a".repeat(had));
                boolean room = had + n <= 64;
                T.due(n + " behind " + had, x.feed(n, 97, 97, 97, 97, 97), room ? had + n : Due.FULL);
                T.due("how many", x.count(7), room ? had + n : had);
            }
        }
        Twins.Story full = Twins.rich("a b c d e f a b c d e f a bcdefg hijkl mn or not c and " + "a b c d e");
        for (int n = 1; n <= 5; n++) {
            int more = n;
            Twins.refused(T, "no room for " + n, full, x -> x.feed(more, 98, 98, 98, 98, 98), Due.FULL);
        }
    }

    private static void feedOrder() {
        T.sentence("2 feed: BAD; FULL (the first that the call's words name)");
        LiveIndex x = new LiveIndex();
        Due.feed(x, "a".repeat(64));
        T.all("BAD ahead of FULL", Due.BAD, x.feed(0, 0, 0, 0, 0, 0), x.feed(6, 0, 0, 0, 0, 0), x.feed(1, 256, 0, 0, 0, 0),
            x.feed(1, 0, 0, 0, 0, -1), x.feed(5, 0, 0, 0, 0, 256));
        T.due("FULL", x.feed(1, 0, 0, 0, 0, 0), Due.FULL);
    }

    private static void addEmptiesTape() {
        T.sentence("3 add: THE TAPE, which is empty then (by a FAULT, too), is a DOCUMENT of a KEY, last in THE BUFFER");
        LiveIndex x = new LiveIndex();
        T.row("a document", new int[] {Due.add(x, 1, "a b c"), x.count(7), x.count(1), x.where(1)}, 3, 0, 1, 1000);
        T.row("the empty tape is none", new int[] {x.add(2), x.count(7), x.count(1), x.where(2)}, -100, 0, 1, -1);
        T.row("a fault", new int[] {Due.add(x, 2, "a b#"), x.count(7), x.count(1), x.where(2)}, -103, 0, 1, -1);
        T.row("the last", new int[] {Due.add(x, 0, "a"), x.count(7), x.count(1), x.where(0)}, 1, 0, 2, 1001);
    }

    private static void addReplaces() {
        T.sentence("3 add: who was LIVE with this KEY is dropped ahead of that (as of drop())");
        LiveIndex x = new LiveIndex();
        Due.segment(x, 5, "a", "b");
        T.due("who was in a segment", Due.add(x, 5, "c"), 1);
        T.row("is dropped there", new int[] {x.doc(0, 0, 1), x.doc(0, 1, 1), x.where(5), x.count(0)}, 1, 0, 1000, 2);
        Due.add(x, 6, "d");
        T.row("so is the other", new int[] {x.doc(0, 1, 1), x.where(6), x.count(0)}, 1, 1001, 2);
        T.due("who was in the buffer", Due.add(x, 5, "e e"), 2);
        T.row("went out of it ahead of that", new int[] {x.where(6), x.where(5), x.count(1)}, 1000, 1001, 2);
        Twins.alike(T, "it is as drop(), then add()", y -> {
            Twins.RICH.tell(y);
            y.add(4);
        }, y -> {
            Twins.RICH.tell(y);
            y.drop(4);
            y.add(4);
        });
    }

    private static void addBad() {
        T.sentence("3 add: BAD: no such KEY (THE TAPE stays)");
        for (String tape : new String[] {"", "a b", "a#", "a".repeat(64)}) {
            Twins.refused(T, "tape " + tape, Twins.rich(tape), Due.BAD, x -> x.add(-1), x -> x.add(100),
                x -> x.add(Due.LEAST), x -> x.add(Due.MOST));
        }
        Twins.Story four = Twins.then(Twins.rich(""), x -> {
            Due.add(x, 10, "a");
            Due.add(x, 11, "a");
            Due.feed(x, "a#");
        });
        Twins.refused(T, "ahead of FULL", four, Due.BAD, x -> x.add(-1), x -> x.add(100));
    }

    private static void addFull() {
        T.sentence("3 add: FULL, ahead of a FAULT: THE BUFFER has 4, none of this KEY (THE TAPE stays)");
        for (String tape : new String[] {"", "a b", "a#"}) {
            Twins.Story four = Twins.then(Twins.rich(""), x -> {
                Due.add(x, 10, "a");
                Due.add(x, 11, "a");
                Due.feed(x, tape);
            });
            Twins.refused(T, "tape '" + tape + "', a new key, one dropped, one live in a segment", four, Due.FULL,
                x -> x.add(0), x -> x.add(2), x -> x.add(4), x -> x.add(99));
            for (int key : new int[] {8, 9, 10, 11}) {
                LiveIndex x = new LiveIndex();
                four.tell(x);
                T.due("a key of the buffer", x.add(key), tape.isEmpty() ? -100 : tape.equals("a#") ? -101 : 2);
                T.row("the buffer has 4, the tape none", new int[] {x.count(1), x.count(7)}, 4, 0);
            }
        }
        LiveIndex x = new LiveIndex();
        for (int key = 0; key < 3; key++) Due.add(x, key, "a");
        T.row("three have room for one", new int[] {Due.add(x, 3, "a"), Due.add(x, 4, "a")}, 1, Due.FULL);
    }

    private static void addFaults() {
        T.sentence("3 add: how many WORDS it has; -100 less the place of its FAULT");
        for (int place = 0; place < 64; place++) {
            T.due("at " + place, Due.add(new LiveIndex(), 0, " ".repeat(place) + "#"), -100 - place);
            T.due("the end, " + place, Due.add(new LiveIndex(), 0, " ".repeat(place)), -100 - place);
        }
        T.due("at 64", Due.add(new LiveIndex(), 0, " ".repeat(64)), -164);
        Twins.alike(T, "nobody is dropped by a fault", Twins.both(Twins.rich("a#"), x -> x.add(4)), Twins.rich(""));
    }

    private static void drop() {
        T.sentence("4 drop: Who is LIVE with a KEY: out of THE BUFFER (0), DROPPED in its SEGMENT (1); NONE: none is");
        LiveIndex x = new LiveIndex();
        for (int key = 0; key < 4; key++) Due.add(x, key, "a");
        T.row("the first, the last, one between, the only one", new int[] {x.drop(0), x.where(1), x.drop(3), x.where(2),
            x.drop(1), x.where(2), x.drop(2), x.count(1)}, 0, 1000, 0, 1001, 0, 1000, 0, 0);
        Due.segment(x, 0, 4);
        Due.segment(x, 4, 4);
        T.row("in segments", new int[] {x.drop(0), x.drop(3), x.drop(4), x.drop(7), x.count(0)}, 1, 1, 1, 1, 4);
        T.row("these", new int[] {x.doc(0, 0, 1), x.doc(0, 1, 1), x.doc(0, 3, 1), x.doc(1, 0, 1), x.doc(1, 3, 1)},
            1, 0, 1, 1, 1);
        Twins.refused(T, "none is, or no more", Twins.RICH, Due.NONE, y -> y.drop(0), y -> y.drop(99), y -> y.drop(2),
            y -> y.drop(3), y -> y.drop(5));
        LiveIndex z = new LiveIndex();
        SIXTY.tell(z);
        for (int key = 59; key >= 0; key--) T.due("key " + key, z.drop(key), 1);
        T.due("none is live", z.count(0), 0);
    }

    private static void dropBad() {
        T.sentence("4 drop: BAD");
        Twins.refused(T, "keys", Twins.RICH, Due.BAD, x -> x.drop(-1), x -> x.drop(100), x -> x.drop(Due.LEAST),
            x -> x.drop(Due.MOST));
        T.all("the last allowed", Due.NONE, new LiveIndex().drop(0), new LiveIndex().drop(99));
    }

    private static void dropBy() {
        T.sentence("5 dropBy: All that would be FOUND now by a QUERY are DROPPED: how many");
        LiveIndex x = new LiveIndex();
        for (String text : new String[] {"a", "b", "c", "not c", "a*", "q"}) Due.ask(x, text);
        T.all("nothing is there", 0, x.dropBy(0), x.dropBy(5));
        Due.segment(x, 0, "a b", "b", "c");
        Due.segment(x, 10, "a", "c c");
        Due.add(x, 20, "a");
        T.row("two, none, none", new int[] {x.dropBy(0), x.dropBy(0), x.dropBy(4)}, 2, 0, 0);
        T.row("those", new int[] {x.where(0), x.where(1), x.where(2), x.where(10), x.where(11), x.where(20)},
            -1, 1, 2, -1, 101, 1000);
        T.row("not yet dropped ones", new int[] {x.dropBy(3), x.dropBy(2), x.count(0)}, 1, 2, 1);
        LiveIndex y = new LiveIndex();
        SIXTY.tell(y);
        Due.segment(y, 60, 4);
        Due.ask(y, "a");
        T.row("64", new int[] {y.dropBy(0), y.count(0), y.dropBy(0)}, 64, 0, 0);
        LiveIndex eight = new LiveIndex();
        EIGHT.tell(eight);
        Due.ask(eight, "a");
        T.row("of eight segments", new int[] {eight.dropBy(0), eight.count(0), eight.told(7, 1)}, 8, 0, 0);
        Twins.refused(T, "who finds none drops none", Twins.then(Twins.RICH, z -> z.dropBy(0)), z -> z.dropBy(0), 0);
    }

    private static void dropByBad() {
        T.sentence("5 dropBy: BAD");
        Twins.refused(T, "queries", Twins.RICH, Due.BAD, x -> x.dropBy(-1), x -> x.dropBy(3), x -> x.dropBy(6),
            x -> x.dropBy(Due.LEAST), x -> x.dropBy(Due.MOST));
        Twins.refused(T, "there is none", Twins.NEW, x -> x.dropBy(0), Due.BAD);
        LiveIndex x = new LiveIndex();
        Twins.RICH.tell(x);
        T.due("the last allowed", x.dropBy(2), 1);
    }

    private static void flush() {
        T.sentence("6 flush: THE BUFFER, which is empty then, becomes the last SEGMENT: its NAME");
        for (int n = 1; n <= 4; n++) {
            LiveIndex x = new LiveIndex();
            Due.segment(x, 50, 1);
            T.due("its name", Due.segment(x, 0, n), 2);
            T.row("all of it", new int[] {x.count(1), x.count(2), x.told(1, 0), x.told(1, 1), x.doc(1, n - 1, 0)},
                0, 2, n, n, n - 1);
            for (int key = 0; key < n; key++) x.drop(key);
            x.crash();
            Due.segment(x, 50, 1);
            Due.segment(x, 0, n);
            T.row("none is dropped in it", new int[] {x.told(1, 1), x.doc(1, 0, 1), x.doc(1, n - 1, 1)}, n, 0, 0);
        }
    }

    private static void flushState() {
        T.sentence("6 flush: STATE: it is empty");
        Twins.refused(T, "a new object", Twins.NEW, x -> x.flush(), Due.STATE);
        Twins.refused(T, "emptied by drops", Twins.then(Twins.RICH, x -> {
            x.drop(8);
            x.drop(9);
        }), x -> x.flush(), Due.STATE);
        Twins.refused(T, "emptied by a flush", Twins.then(Twins.RICH, x -> x.flush()), x -> x.flush(), Due.STATE);
        Twins.refused(T, "emptied by a crash", Twins.then(Twins.RICH, x -> x.crash()), x -> x.flush(), Due.STATE);
        Twins.refused(T, "ahead of FULL: 8 segments", EIGHT, x -> x.flush(), Due.STATE);
        Twins.refused(T, "ahead of FULL: 64 documents", Twins.then(SIXTY, x -> Due.segment(x, 60, 4)), x -> x.flush(), Due.STATE);
    }

    private static void flushFull() {
        T.sentence("6 flush: FULL: 8 SEGMENTS, 64 DOCUMENTS would be too few");
        for (int n = 1; n <= 4; n++) {
            int more = n;
            Twins.refused(T, "a ninth segment of " + n, Twins.then(EIGHT, x -> {
                for (int i = 0; i < more; i++) Due.add(x, 10 + i, "b");
            }), x -> x.flush(), Due.FULL);
            Twins.refused(T, "65 documents by " + n, Twins.then(SIXTY, x -> {
                for (int i = more; i <= 4; i++) Due.add(x, 60 + i, "a");
                x.flush();
                for (int i = 0; i < more; i++) Due.add(x, 80 + i, "b");
            }), x -> x.flush(), Due.FULL);
            LiveIndex x = new LiveIndex();
            SIXTY.tell(x);
            T.due("60 and " + n, Due.segment(x, 60, n) > 0 ? x.count(0) : 0, 60 + n);
            x = new LiveIndex();
            EIGHT.tell(x);
            x.begin();
            x.finish();
            T.row("6 and 2", new int[] {Due.segment(x, 20, n), Due.segment(x, 30, n), Due.segment(x, 40, 1), x.count(2)},
                10, 11, Due.FULL, 8);
        }
        Twins.refused(T, "dropped ones take room, too", Twins.then(SIXTY, x -> {
            Due.segment(x, 60, 4);
            x.drop(0);
            Due.add(x, 0, "b");
        }), x -> x.flush(), Due.FULL);
    }

    private static void where() {
        T.sentence("7 where: Where who is LIVE with a KEY is: 100 * SEGMENT + the place in it (from 0); "
            + "1000 + the place in THE BUFFER; NONE");
        LiveIndex x = new LiveIndex();
        EIGHT.tell(x);
        for (int key = 0; key < 8; key++) T.due("in segments", x.where(key), 100 * key);
        for (int i = 0; i < 4; i++) Due.add(x, 96 + i, "a");
        for (int i = 0; i < 4; i++) T.due("in the buffer", x.where(96 + i), 1000 + i);
        T.all("none", Due.NONE, x.where(8), x.where(95), x.drop(50), x.drop(0) - 2, x.where(0));
        LiveIndex y = new LiveIndex();
        for (int key = 0; key < 64; key += 4) {
            Due.segment(y, key, 4);
            y.set(0, 1);
            if (key % 16 == 12) Due.mergeAll(y);
        }
        for (int key = 0; key < 64; key++) T.due("of 16", y.where(key), 100 * (key / 16) + key % 16);
    }

    private static void whereBad() {
        T.sentence("7 where: BAD");
        Twins.refused(T, "keys", Twins.RICH, Due.BAD, x -> x.where(-1), x -> x.where(100), x -> x.where(Due.LEAST),
            x -> x.where(Due.MOST));
        Twins.refused(T, "the last allowed, and it only tells", Twins.RICH, Due.NONE, x -> x.where(0), x -> x.where(99));
    }
}
