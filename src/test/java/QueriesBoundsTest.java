/** The boundary sentences of promises 21 to 30, and that what they refuse changes nothing. */
public final class QueriesBoundsTest {
    private static final Due T = new Due("queries' bounds");
    private static final int[] FAR = {Due.LEAST, Due.MOST};
    private static final int[] NO_ANSWERS = {Due.LEAST, -1, 3, 9, 74, 75, 99, 164, 165, Due.MOST};
    /** Query 0 costs 3, query 1 costs 4, query 2 costs 0; queries 0 and 1 find 2 each, one of them by both. */
    private static final Twins.Story PRICED = x -> {
        Due.segment(x, 0, "a", "a b", "b", "c");
        x.drop(3);
        Due.segment(x, 10, "a");
        x.drop(10);
        Due.ask(x, "a");
        Due.ask(x, "b or b");
        Due.ask(x, "q");
    };

    public static void main(String[] args) {
        query();
        queryFull();
        open();
        openBad();
        openState();
        shut();
        shutBad();
        shutState();
        found();
        foundItems();
        foundBad();
        foundState();
        look();
        lookBad();
        lookDear();
        both();
        bothBad();
        bothDear();
        silence();
        silenceBad();
        tells();
        tellsBad();
        tellsState();
        tellsNothing();
        film();
        filmMost();
        filmBad();
        filmState();
        count();
        countLog();
        countBad();
        T.end();
    }

    private static void query() {
        T.sentence("21 query: THE TAPE, which is empty then (by a FAULT, too), is a QUERY: its number (from 0); -100 less the "
            + "place of its FAULT");
        LiveIndex x = new LiveIndex();
        for (int i = 0; i < 6; i++) {
            T.row("a query", new int[] {Due.ask(x, "a"), x.count(7), x.count(6)}, i, 0, i + 1);
            if (i < 5) T.row("the empty tape is none", new int[] {x.query(), x.count(7), x.count(6)}, -100, 0, i + 1);
            if (i < 5) T.row("a fault", new int[] {Due.ask(x, "a or"), x.count(7), x.count(6)}, -104, 0, i + 1);
        }
        for (int place = 0; place < 64; place++) {
            T.due("at " + place, Due.ask(new LiveIndex(), " ".repeat(place) + "#"), -100 - place);
        }
        T.due("at 64", Due.ask(new LiveIndex(), " ".repeat(64)), -164);
        T.due("64 bytes", Due.ask(new LiveIndex(), "a or b or c or d or e or f or g or h or i or j or k or l or abcd"), 0);
    }

    private static void queryFull() {
        T.sentence("21 query: FULL: no QUERY more has room (THE TAPE stays)");
        for (String tape : new String[] {"", "a b", "c or d", "a".repeat(64)}) {
            Twins.refused(T, "tape " + tape, Twins.then(Twins.rich(""), x -> {
                for (int i = 0; i < 3; i++) Due.ask(x, "b");
                Due.feed(x, tape);
            }), x -> x.query(), Due.FULL);
        }
        LiveIndex x = new LiveIndex();
        for (int i = 0; i < 6; i++) Due.ask(x, "a");
        x.crash();
        T.row("behind a crash, too", new int[] {Due.ask(x, "b"), x.add(0)}, Due.FULL, 1);
    }

    private static void open() {
        T.sentence("22 open: A VIEW is opened: how many DOCUMENTS aren't DROPPED in it");
        LiveIndex x = new LiveIndex();
        Due.add(x, 90, "a");
        T.row("none", new int[] {x.open(0), x.count(5)}, 0, 1);
        x.drop(90);
        Due.fill(x, 64, "a");
        Due.add(x, 91, "a");
        T.row("64", new int[] {x.open(1), x.count(5)}, 64, 2);
        x.drop(0);
        T.row("63", new int[] {x.open(2), x.count(5)}, 63, 3);
        for (int key = 1; key < 64; key++) x.drop(key);
        T.row("none that isn't dropped", new int[] {x.open(3), x.count(5)}, 0, 4);
    }

    private static void openBad() {
        T.sentence("22 open: BAD");
        Twins.refused(T, "no such", Twins.RICH, Due.BAD, x -> x.open(-1), x -> x.open(4), x -> x.open(Due.LEAST),
            x -> x.open(Due.MOST));
    }

    private static void openState() {
        T.sentence("22 open: STATE: it is open");
        Twins.refused(T, "1 and 3", Twins.RICH, Due.STATE, x -> x.open(1), x -> x.open(3));
        for (int view = 0; view < 4; view++) {
            LiveIndex x = new LiveIndex();
            int[] row = {x.open(view), x.open(view), x.shut(view), x.open(view), x.crash(), x.open(view)};
            T.row("view " + view, row, 0, Due.STATE, 0, 0, 0, 0);
        }
    }

    private static void shut() {
        T.sentence("23 shut: A VIEW is shut: how many are HELD then");
        LiveIndex x = new LiveIndex();
        x.open(0);
        T.due("none", x.shut(0), 0);
        for (int key = 0; key < 8; key++) Due.segment(x, key, 1);
        for (int view = 0; view < 4; view++) x.open(view);
        T.row("that stand now", new int[] {x.shut(0), x.count(5)}, 8, 3);
        x.begin();
        x.finish();
        T.row("9 till the last is shut", new int[] {x.shut(3), x.shut(1), x.shut(2), x.count(5)}, 9, 9, 6, 0);
    }

    private static void shutBad() {
        T.sentence("23 shut: BAD");
        Twins.refused(T, "no such", Twins.RICH, Due.BAD, x -> x.shut(-1), x -> x.shut(4), x -> x.shut(Due.LEAST),
            x -> x.shut(Due.MOST));
    }

    private static void shutState() {
        T.sentence("23 shut: STATE: it isn't open");
        Twins.refused(T, "0 and 2", Twins.RICH, Due.STATE, x -> x.shut(0), x -> x.shut(2));
        Twins.refused(T, "shut", Twins.then(Twins.RICH, x -> x.shut(1)), x -> x.shut(1), Due.STATE);
        Twins.refused(T, "crashed", Twins.then(Twins.RICH, x -> x.crash()), Due.STATE, x -> x.shut(1), x -> x.shut(3));
    }

    private static void found() {
        T.sentence("24 found: FOUND by a QUERY in a VIEW: how many (what 0), COST (1), WORTH of all, together (2)");
        LiveIndex x = new LiveIndex();
        PRICED.tell(x);
        x.open(0);
        int[][] want = {{2, 3, 2}, {2, 4, 4}, {0, 0, 0}};
        for (int query = 0; query < 3; query++) {
            T.row("query " + query, new int[] {x.found(0, query, 0), x.found(0, query, 1), x.found(0, query, 2)}, want[query]);
        }
        x.set(2, 0);
        T.row("whatever the limit", new int[] {x.found(0, 0, 0), x.found(0, 0, 1), x.found(0, 0, 2)}, want[0]);
        T.all("no look", 0, x.count(9));
        LiveIndex y = new LiveIndex();
        y.open(3);
        Due.ask(y, "not a");
        T.row("an empty view", new int[] {y.found(3, 0, 0), y.found(3, 0, 1), y.found(3, 0, 2), y.found(3, 0, 10)}, 0, 0, 0, -1);
    }

    private static void foundItems() {
        T.sentence("24 found: the KEY of the i-th (10 + i; NONE), its WORTH (100 + i; NONE) (i from 0 to 63)");
        LiveIndex x = new LiveIndex();
        Due.fill(x, 64, "a a");
        Due.ask(x, "a");
        x.open(0);
        x.drop(63);
        x.open(1);
        for (int i = 0; i < 64; i++) {
            T.row("item " + i, new int[] {x.found(0, 0, 10 + i), x.found(0, 0, 100 + i)}, i, 2);
        }
        T.row("the last of 63", new int[] {x.found(1, 0, 72), x.found(1, 0, 73), x.found(1, 0, 162), x.found(1, 0, 163)},
            62, Due.NONE, 2, Due.NONE);
        LiveIndex y = new LiveIndex();
        Due.segment(y, 7, 1);
        Due.ask(y, "a");
        y.open(0);
        T.row("one", new int[] {y.found(0, 0, 10), y.found(0, 0, 11), y.found(0, 0, 100), y.found(0, 0, 101)}, 7, -1, 1, -1);
    }

    private static void foundBad() {
        T.sentence("24 found: BAD: no such VIEW, QUERY, what");
        Twins.refused(T, "no such", Twins.RICH, Due.BAD, x -> x.found(-1, 0, 0), x -> x.found(4, 0, 0), x -> x.found(1, -1, 0),
            x -> x.found(1, 3, 0), x -> x.found(1, 6, 0));
        for (int far : FAR) {
            Twins.refused(T, "far", Twins.RICH, Due.BAD, x -> x.found(far, 0, 0), x -> x.found(1, far, 0));
        }
        LiveIndex x = new LiveIndex();
        Twins.RICH.tell(x);
        for (int what : NO_ANSWERS) {
            T.due("what " + what, x.found(1, 0, what), Due.BAD);
            T.due("ahead of STATE: what " + what, x.found(0, 0, what), Due.BAD);
        }
        T.all("ahead of STATE", Due.BAD, x.found(0, 3, 0), x.found(0, -1, 0), x.found(2, 3, 10));
        Twins.refused(T, "there is no query", Twins.then(Twins.NEW, y -> y.open(0)), y -> y.found(0, 0, 0), Due.BAD);
    }

    private static void foundState() {
        T.sentence("24 found: STATE: it isn't open");
        Twins.refused(T, "0 and 2", Twins.RICH, Due.STATE, x -> x.found(0, 0, 0), x -> x.found(2, 2, 163), x -> x.found(0, 1, 1));
        Twins.refused(T, "shut", Twins.then(Twins.RICH, x -> x.shut(3)), x -> x.found(3, 0, 0), Due.STATE);
    }

    private static void look() {
        T.sentence("25 look: A LOOK is opened: as of found() of SEGMENTS as they are");
        LiveIndex x = new LiveIndex();
        PRICED.tell(x);
        x.open(0);
        int[] whats = {0, 1, 2, 10, 11, 12, 73, 100, 101, 102, 163};
        for (int query = 0; query < 3; query++) {
            for (int what : whats) T.due("query " + query + ", what " + what, x.look(query, what), x.found(0, query, what));
        }
        T.due("each is counted", x.count(9), 33);
        x.drop(0);
        Due.segment(x, 20, "a a", "q");
        Due.add(x, 30, "a");
        T.row("as they are", new int[] {x.look(0, 0), x.look(0, 1), x.look(0, 2), x.look(0, 10), x.look(2, 0), x.look(2, 10)},
            2, 4, 3, 20, 1, 21);
        LiveIndex y = new LiveIndex();
        Due.ask(y, "not a");
        T.row("no segments", new int[] {y.look(0, 0), y.look(0, 1), y.look(0, 2), y.look(0, 10), y.look(0, 163), y.count(10)},
            0, 0, 0, -1, -1, 5);
    }

    private static void lookBad() {
        T.sentence("25 look: BAD (no LOOK is opened)");
        Twins.refused(T, "queries", Twins.RICH, Due.BAD, x -> x.look(-1, 0), x -> x.look(3, 0), x -> x.look(6, 0),
            x -> x.look(Due.LEAST, 0), x -> x.look(Due.MOST, 0));
        for (int what : NO_ANSWERS) Twins.refused(T, "what " + what, Twins.RICH, x -> x.look(0, what), Due.BAD);
        Twins.refused(T, "ahead of DEAR", Twins.then(Twins.RICH, x -> x.set(2, 0)), Due.BAD, x -> x.look(0, 3), x -> x.look(0, -1));
        Twins.refused(T, "there is none", Twins.NEW, x -> x.look(0, 0), Due.BAD);
    }

    private static void lookDear() {
        T.sentence("25 look: DEAR: COST is above LIMIT (the LOOK is shut all the same)");
        int[] costs = {3, 4, 0};
        for (int query = 0; query < 3; query++) {
            for (int limit = 0; limit <= 5; limit++) {
                LiveIndex x = new LiveIndex();
                PRICED.tell(x);
                x.set(2, limit);
                boolean dear = costs[query] > limit;
                T.row("query " + query + ", limit " + limit, new int[] {x.look(query, 1), x.count(9), x.count(10), x.count(11)},
                    dear ? Due.DEAR : costs[query], 1, 1, Due.NONE);
                T.due("whatever is asked", x.look(query, 163), dear ? Due.DEAR : Due.NONE);
            }
        }
        Twins.Story limited = Twins.then(Twins.RICH, x -> x.set(2, 2));
        Twins.alike(T, "it changes nothing but the log", Twins.both(limited, x -> x.look(0, 0)),
            Twins.then(limited, x -> x.look(1, 0)));
        LiveIndex x = new LiveIndex();
        limited.tell(x);
        T.row("the one is DEAR, the other isn't", new int[] {x.look(0, 0), x.look(1, 1)}, Due.DEAR, 2);
    }

    private static void both() {
        T.sentence("26 both: how many are FOUND by both (what 0), by the one, not by the other (1)");
        LiveIndex x = new LiveIndex();
        PRICED.tell(x);
        int[][] byBoth = {{2, 1, 0}, {1, 2, 0}, {0, 0, 0}};
        int[][] byOne = {{0, 1, 2}, {1, 0, 2}, {0, 0, 0}};
        for (int one = 0; one < 3; one++) {
            for (int other = 0; other < 3; other++) {
                T.row(one + ", " + other, new int[] {x.both(one, other, 0), x.both(one, other, 1)}, byBoth[one][other],
                    byOne[one][other]);
            }
        }
        T.row("looks", new int[] {x.count(9), x.count(10), x.count(11)}, 36, 35, 36);
        LiveIndex y = new LiveIndex();
        Due.fill(y, 64, "a");
        Due.ask(y, "a");
        Due.ask(y, "not b");
        T.row("all of 64", new int[] {y.both(0, 1, 0), y.both(0, 1, 1)}, 64, 0);
        LiveIndex z = new LiveIndex();
        Due.segment(z, 0, "a");
        Due.segment(z, 10, "b", "a b");
        Due.segment(z, 20, "a");
        z.drop(0);
        Due.ask(z, "a");
        Due.ask(z, "b");
        T.row("in segments", new int[] {z.both(0, 1, 0), z.both(0, 1, 1), z.both(1, 0, 1)}, 1, 1, 1);
        bothOfEight();
    }

    private static void bothOfEight() {
        LiveIndex x = new LiveIndex();
        for (int key = 0; key < 8; key++) Due.segment(x, key, key < 7 ? "a b" : "a b c");
        for (String text : new String[] {"a", "b", "c"}) Due.ask(x, text);
        T.row("of eight segments", new int[] {x.both(0, 1, 0), x.both(0, 1, 1), x.both(0, 2, 0), x.both(2, 0, 1)}, 8, 0, 1, 0);
        Due.mergeAll(x);
        T.row("of fewer", new int[] {x.count(2), x.both(0, 1, 0), x.both(0, 1, 1), x.both(0, 2, 0), x.both(0, 2, 1)},
            4, 8, 0, 1, 7);
        x.crash();
        T.row("of none", new int[] {x.both(0, 1, 0), x.both(0, 1, 1), x.both(0, 2, 0), x.both(0, 2, 1)}, 0, 0, 0, 0);
    }

    private static void bothBad() {
        T.sentence("26 both: BAD (none is opened)");
        Twins.refused(T, "no such", Twins.RICH, Due.BAD, x -> x.both(-1, 0, 0), x -> x.both(3, 0, 0), x -> x.both(0, -1, 0),
            x -> x.both(0, 3, 0), x -> x.both(0, 1, -1), x -> x.both(0, 1, 2), x -> x.both(6, 6, 6));
        for (int far : FAR) {
            Twins.refused(T, "far", Twins.RICH, Due.BAD, x -> x.both(far, 0, 0), x -> x.both(0, far, 0), x -> x.both(0, 1, far));
        }
        Twins.refused(T, "ahead of DEAR", Twins.then(Twins.RICH, x -> x.set(2, 0)), Due.BAD, x -> x.both(0, 3, 0),
            x -> x.both(0, 0, 2), x -> x.both(3, 0, 0));
        Twins.refused(T, "there is none", Twins.NEW, x -> x.both(0, 0, 0), Due.BAD);
    }

    private static void bothDear() {
        T.sentence("26 both: DEAR: COST of the one, or of the other, is above LIMIT (the second is opened behind the first "
            + "one's question, if that wasn't DEAR; all are shut)");
        int[] costs = {3, 4, 0};
        for (int limit = 0; limit <= 5; limit++) {
            for (int one = 0; one < 3; one++) {
                for (int other = 0; other < 3; other++) {
                    LiveIndex x = new LiveIndex();
                    PRICED.tell(x);
                    x.set(2, limit);
                    int answer = x.both(one, other, 0);
                    boolean dear = costs[one] > limit || costs[other] > limit;
                    int looks = costs[one] > limit ? 1 : 2;
                    String name = one + ", " + other + ", limit " + limit;
                    T.due(name, answer == Due.DEAR ? 1 : 0, dear ? 1 : 0);
                    T.row(name + ": the log", new int[] {x.count(9), x.count(10), x.count(11), x.count(12)}, looks, 1,
                        looks == 2 ? 2 : Due.NONE, Due.NONE);
                    T.due("also the other what", x.both(one, other, 1) == Due.DEAR ? 1 : 0, dear ? 1 : 0);
                    T.due("all are shut: as many are logged", x.count(10 + 2 * looks - 1) > 0 ? x.count(9) : -1, 2 * looks);
                }
            }
        }
        Twins.Story limited = Twins.then(Twins.RICH, x -> x.set(2, 2));
        Twins.alike(T, "it changes nothing but the log: one", Twins.both(limited, x -> x.both(0, 1, 0)),
            Twins.then(limited, x -> x.look(1, 0)));
        Twins.alike(T, "it changes nothing but the log: two", Twins.both(limited, x -> x.both(1, 0, 0)),
            Twins.then(limited, x -> x.both(1, 1, 0)));
    }

    private static void silence() {
        T.sentence("27 silence: SILENCE to n (0 .. 999), SEGMENTS as they are");
        LiveIndex x = new LiveIndex();
        PRICED.tell(x);
        T.row("to 0, 999", new int[] {x.silence(0, 0), x.silence(0, 999), x.silence(2, 0)}, 2, 0, 0);
        T.row("to just all, one less", new int[] {x.silence(0, 2), x.silence(0, 1), x.silence(1, 4), x.silence(1, 3)}, 0, 1, 0, 1);
        x.set(2, 0);
        T.row("no limit, no look", new int[] {x.silence(0, 0), x.count(9)}, 2, 0);
        Due.add(x, 50, "a");
        T.due("without the buffer", x.silence(0, 0), 2);
        x.flush();
        T.due("as they are", x.silence(0, 0), 3);
        x.open(0);
        x.drop(50);
        T.due("as they are, not as in a view", x.silence(0, 0), 2);
        Twins.refused(T, "it only tells", Twins.RICH, y -> y.silence(0, 0), 2);
    }

    private static void silenceBad() {
        T.sentence("27 silence: BAD");
        Twins.refused(T, "no such", Twins.RICH, Due.BAD, x -> x.silence(-1, 0), x -> x.silence(3, 0), x -> x.silence(6, 0),
            x -> x.silence(0, -1), x -> x.silence(0, 1000));
        for (int far : FAR) Twins.refused(T, "far", Twins.RICH, Due.BAD, x -> x.silence(far, 0), x -> x.silence(0, far));
        Twins.refused(T, "there is none", Twins.NEW, x -> x.silence(0, 0), Due.BAD);
    }

    private static void tells() {
        T.sentence("28 tells: TOLD by a QUERY in a VIEW: the first that is otherwise (what 0; NONE), QUERIES (1), VIEWS (2; "
            + "those that aren't open don't count)");
        LiveIndex x = new LiveIndex();
        PRICED.tell(x);
        for (int i = 0; i < 3; i++) Due.ask(x, "q");
        for (int view = 0; view < 4; view++) x.open(view);
        x.sheet(0, 1, 0);
        T.row("of none", new int[] {x.tells(0, 3, 5, 0), x.tells(0, 3, 5, 1), x.tells(0, 3, 5, 2)}, Due.NONE, 4 | 8 | 16 | 32, 15);
        T.row("too little", new int[] {x.tells(0, 0, 0, 0), x.tells(0, 0, 0, 1), x.tells(0, 0, 0, 2)}, 0, 4 | 8 | 16 | 32, 0);
        x.film(0, 0, 0);
        T.row("just so", new int[] {x.tells(0, 3, 0, 0), x.tells(0, 3, 0, 1), x.tells(0, 3, 0, 2)}, Due.NONE, 1, 15);
        x.shut(1);
        x.shut(3);
        T.row("of the open ones", new int[] {x.tells(0, 0, 0, 2), x.tells(0, 2, 0, 2)}, 5, 5);
        x.drop(0);
        x.open(3);
        T.row("not in that one", new int[] {x.tells(0, 0, 0, 2), x.tells(0, 3, 0, 2), x.tells(0, 3, 0, 0), x.tells(0, 3, 0, 1)},
            5, 5, 0, 0);
        LiveIndex y = new LiveIndex();
        Due.fill(y, 44, "a");
        Due.ask(y, "a");
        y.open(0);
        for (int key = 0; key < 3; key++) y.drop(key);
        y.open(1);
        y.drop(3);
        y.open(2);
        T.row("all of 44, 41, 40: a sheet has 40", new int[] {y.film(0, 0, 0), y.tells(0, 0, 0, 0), y.film(0, 1, 0),
            y.tells(0, 1, 0, 0), y.film(0, 2, 0), y.tells(0, 2, 0, 0), y.tells(0, 2, 0, 2)}, 40, 40, 40, 40, 40, Due.NONE, 4);
    }

    private static void tellsBad() {
        T.sentence("28 tells: BAD: SHEET, VIEW, QUERY, what");
        Twins.refused(T, "no such", Twins.RICH, Due.BAD, x -> x.tells(-1, 1, 0, 0), x -> x.tells(4, 1, 0, 0),
            x -> x.tells(0, -1, 0, 0), x -> x.tells(0, 4, 0, 0), x -> x.tells(0, 1, -1, 0), x -> x.tells(0, 1, 3, 0),
            x -> x.tells(0, 1, 0, -1), x -> x.tells(0, 1, 0, 3));
        for (int far : FAR) {
            Twins.refused(T, "far", Twins.RICH, Due.BAD, x -> x.tells(far, 1, 0, 0), x -> x.tells(0, far, 0, 0),
                x -> x.tells(0, 1, far, 0), x -> x.tells(0, 1, 0, far));
        }
        Twins.refused(T, "ahead of STATE, -11", Twins.RICH, Due.BAD, x -> x.tells(4, 0, 0, 0), x -> x.tells(0, 0, 3, 0),
            x -> x.tells(0, 0, 0, 3), x -> x.tells(2, 0, 0, 3), x -> x.tells(2, 1, 3, 0), x -> x.tells(2, 4, 0, 0));
    }

    private static void tellsState() {
        T.sentence("28 tells: STATE: it isn't open");
        Twins.refused(T, "ahead of -11, too", Twins.RICH, Due.STATE, x -> x.tells(0, 0, 0, 0), x -> x.tells(1, 2, 0, 1),
            x -> x.tells(0, 0, 0, 2), x -> x.tells(2, 0, 0, 0), x -> x.tells(2, 2, 2, 2));
    }

    private static void tellsNothing() {
        T.sentence("28 tells: -11");
        Twins.refused(T, "missing", Twins.RICH, Due.NOTHING, x -> x.tells(2, 1, 0, 0), x -> x.tells(2, 3, 1, 1),
            x -> x.tells(2, 1, 2, 2));
        Twins.refused(T, "a row of none isn't missing", Twins.RICH, x -> x.tells(3, 3, 1, 0), Due.NONE);
    }

    private static void film() {
        T.sentence("29 film: A SHEET truly becomes KEYS of all FOUND by a QUERY in a VIEW, in order (bytes ...): how many");
        for (String before : new String[] {"missing", "bytes", "ints", "forty"}) {
            LiveIndex x = new LiveIndex();
            Due.segment(x, 96, "a", "a a a", "b", "a a");
            for (String text : new String[] {"a", "q", "not q"}) Due.ask(x, text);
            x.open(2);
            x.drop(97);
            if (before.equals("bytes")) x.sheet(3, 0, 2);
            if (before.equals("ints")) x.sheet(3, 1, 5);
            if (before.equals("forty")) x.sheet(3, 1, 40);
            T.row("three, in order", new int[] {x.film(3, 2, 0), x.tells(3, 2, 0, 0), x.cell(3, 3, 0)}, 3, Due.NONE, Due.OUTSIDE);
            x.sheet(0, 0, 1);
            x.sheet(1, 1, 1);
            T.row("bytes", new int[] {x.copy(3, 2, 0, 0, 1), x.copy(3, 2, 1, 0, 1)}, 1, Due.UNLIKE);
            T.row("it may be changed", new int[] {x.cell(3, 2, 256), x.tells(3, 2, 0, 0)}, 1, 2);
            T.row("none", new int[] {x.film(3, 2, 1), x.cell(3, 0, 0), x.tells(3, 2, 1, 0)}, 0, Due.OUTSIDE, Due.NONE);
            T.row("four", new int[] {x.film(3, 2, 2), x.tells(3, 2, 2, 0), x.cell(3, 4, 0)}, 4, Due.NONE, Due.OUTSIDE);
        }
    }

    private static void filmMost() {
        T.sentence("29 film: (bytes; the first 40)");
        for (int n : new int[] {39, 40, 41, 64}) {
            LiveIndex x = new LiveIndex();
            Due.fill(x, n, "a");
            Due.ask(x, "a");
            x.open(0);
            int has = Math.min(n, 40);
            T.row(n + " are found", new int[] {x.film(0, 0, 0), x.tells(0, 0, 0, 0), x.cell(0, has - 1, has - 1),
                x.cell(0, has, 0), x.tells(0, 0, 0, 0)}, has, n > 40 ? 40 : Due.NONE, 1, Due.OUTSIDE, n > 40 ? 40 : Due.NONE);
        }
    }

    private static void filmBad() {
        T.sentence("29 film: BAD: SHEET, VIEW, QUERY");
        Twins.refused(T, "no such", Twins.RICH, Due.BAD, x -> x.film(-1, 1, 0), x -> x.film(4, 1, 0), x -> x.film(0, -1, 0),
            x -> x.film(0, 4, 0), x -> x.film(0, 1, -1), x -> x.film(0, 1, 3));
        for (int far : FAR) {
            Twins.refused(T, "far", Twins.RICH, Due.BAD, x -> x.film(far, 1, 0), x -> x.film(0, far, 0), x -> x.film(0, 1, far));
        }
        Twins.refused(T, "ahead of STATE", Twins.RICH, Due.BAD, x -> x.film(4, 0, 0), x -> x.film(0, 0, 3), x -> x.film(-1, 2, -1));
    }

    private static void filmState() {
        T.sentence("29 film: STATE: it isn't open");
        Twins.refused(T, "0 and 2", Twins.RICH, Due.STATE, x -> x.film(0, 0, 0), x -> x.film(1, 2, 1), x -> x.film(2, 0, 0));
    }

    private static void count() {
        T.sentence("30 count: How many: 0 LIVE, 1 in THE BUFFER, 2 SEGMENTS, 3 HELD, 4 SEGMENTS of THE COMMIT, 5 VIEWS that "
            + "are open, 6 QUERIES, 7 bytes of THE TAPE, 8 whether a MERGE is begun (1, 0), 9 LOOKS ever");
        LiveIndex x = new LiveIndex();
        for (int what = 0; what < 10; what++) T.due("at first " + what, x.count(what), 0);
        Twins.RICH.tell(x);
        T.row("rich", new int[] {x.count(0), x.count(1), x.count(2), x.count(3), x.count(4), x.count(5), x.count(6), x.count(7),
            x.count(8), x.count(9)}, 4, 2, 3, 3, 3, 2, 3, 5, 1, 3);
        LiveIndex y = new LiveIndex();
        for (int key = 0; key < 32; key += 4) Due.segment(y, key, 4);
        for (int key = 32; key < 36; key++) Due.add(y, key, "a");
        for (int i = 0; i < 6; i++) Due.ask(y, "a");
        for (int view = 0; view < 4; view++) y.open(view);
        y.write();
        y.commit();
        Due.feed(y, "a".repeat(64));
        T.row("as full as can be", new int[] {y.count(0), y.count(1), y.count(2), y.count(3), y.count(4), y.count(5), y.count(6),
            y.count(7)}, 36, 4, 8, 8, 8, 4, 6, 64);
    }

    private static void countLog() {
        T.sentence("30 count: 10 .. 17 the last, the one ahead of it, .. of THE LOG (NONE)");
        LiveIndex x = new LiveIndex();
        PRICED.tell(x);
        for (int n = 0; n <= 10; n++) {
            for (int i = 0; i < 8; i++) T.due(n + " looks, " + i, x.count(10 + i), n - i > 0 ? n - i : Due.NONE);
            x.look(0, 0);
        }
    }

    private static void countBad() {
        T.sentence("30 count: BAD");
        Twins.refused(T, "what", Twins.RICH, Due.BAD, x -> x.count(-1), x -> x.count(18), x -> x.count(Due.LEAST),
            x -> x.count(Due.MOST));
        LiveIndex x = new LiveIndex();
        T.row("the last allowed", new int[] {x.count(0), x.count(17)}, 0, Due.NONE);
    }
}
