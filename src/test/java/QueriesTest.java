/** Promises 21 to 30. */
public final class QueriesTest {
    private static final Due T = new Due("queries");

    public static void main(String[] args) {
        queryReads();
        queryFaults();
        queryOpenParts();
        queryFull();
        open();
        shut();
        found();
        foundOrder();
        foundMany();
        worths();
        costs();
        costsOfNeighbours();
        look();
        both();
        silence();
        tells();
        film();
        filmMany();
        count();
        T.end();
    }

    private static void queryReads() {
        String[] texts = {"a", "abcdef", "a*", "a *", "a~b", "a ~\nb", "\"a\"", "\"a b c d e f\"", "\" a b \"", "(a)",
            "( a )", "not a", "not(a)", "a or b", "a and b", "a or b and c", "(a or b)and(c)", "\"a\"or\"b\"",
            "not not a", "((((a))))", "not (not (a))", "a*or b", "a~b and c~d", "ora", "nota and andy", "a or\"b\"",
            "  a\n", "not\"a\"", "(not(not a))and not((a))", "orr"};
        for (String text : texts) {
            LiveIndex x = new LiveIndex();
            T.due("21 reads " + text, Due.ask(x, text), 0);
            T.all("21 the tape is empty then", 0, x.count(7), x.count(6) - 1);
        }
    }

    private static void queryFaults() {
        String[] texts = {"", "  ", "or", "and", "a or", "a or ", "a and", "not", "not ", "(", "(a", "(a or", ")", "a)",
            "a b", "a (b)", "a not b", "a \"b\"", "\"a\" b", "\"", "\"\"", "\"a", "\"a or b\"", "\"and\"", "\"not\"",
            "\"a*\"", "\"a b c d e f g\"", "\"a(\"", "*", "~", "~a", "a**", "a*~b", "a~b*", "a~b~c", "a~", "a~(b)",
            "a~or", "a~\"b\"", "(a)*", "\"a\"*", "(a)~b", "or*", "a or or b", "a and or b", "a or and", "()", "(a))",
            "A", "a1", "a,b", "a\tb", "abcdefg", "a or abcdefg", "a~abcdefg", "\"abcdefg\"", "a abcdefg", "abcdefg $",
            "a b $", "a $", "(a $", "not or", "not)", "a or )", "\"a\nb", "a" + (char) 0, "a" + (char) 200, "{", "`",
            "a*b", "notabcd", "a&b"};
        int[] places = {0, 2, 0, 0, 4, 5, 5, 3, 4, 1, 2, 5, 0, 1,
            2, 2, 2, 2, 4, 1, 1, 2, 3, 1, 1,
            2, 13, 2, 0, 0, 0, 2, 2, 3, 3, 2, 2,
            2, 2, 3, 3, 3, 0, 5, 6, 5, 1, 3,
            0, 1, 1, 1, 0, 5, 2, 1, 2, 0,
            2, 2, 3, 4, 3, 5, 4, 1, 1, 0, 0,
            2, 0, 1};
        T.due("21 as many places as texts", places.length, texts.length);
        LiveIndex x = new LiveIndex();
        for (int i = 0; i < texts.length; i++) {
            T.due("21 fault of " + texts[i], Due.ask(x, texts[i]), -100 - places[i]);
            T.all("21 a fault empties the tape and makes no query", 0, x.count(7), x.count(6));
        }
        T.due("21 a fault at the end of a full tape", Due.ask(x, "a".repeat(6) + " ".repeat(56) + "or"), -164);
        T.due("21 half a query", Due.ask(x, "z or z or"), -109);
        T.due("21 the first query all the same", Due.ask(x, "a"), 0);
        Due.segment(x, 0, "z", "a");
        T.row("21 nothing of the half one is in it", Due.rowOf(x, 0), 1);
    }

    private static void queryOpenParts() {
        LiveIndex x = new LiveIndex();
        T.due("21 five (", Due.ask(x, "(((((a)))))"), -104);
        T.due("21 five not", Due.ask(x, "not not not not not a"), -116);
        T.due("21 mixed", Due.ask(x, "not(not((a or(b)))"), -108);
        T.due("21 a fifth not", Due.ask(x, "((((not a))))"), -104);
        T.due("21 a fifth where it can't stand anyway", Due.ask(x, "((((a ("), -106);
        T.due("21 four, closed, four", Due.ask(x, "((((a))))or((((b))))"), 0);
        T.due("21 not ends with its one", Due.ask(x, "not not not not a or not not not not b"), 1);
        T.due("21 not ends ahead of and", Due.ask(x, "not not not not a and(b)"), 2);
        T.due("21 not ends with its )", Due.ask(x, "not not(not a) and not not not(a)"), 3);
        T.due("21 not stays open till its ) ends", Due.ask(x, "not(not a or not(not(b)))"), -117);
    }

    private static void queryFull() {
        LiveIndex x = new LiveIndex();
        for (int i = 0; i < 6; i++) T.due("21 six queries", Due.ask(x, "a"), i);
        Due.feed(x, "b");
        T.due("21 no seventh", x.query(), Due.FULL);
        T.due("21 the tape stays", x.count(7), 1);
        T.due("21 six", x.count(6), 6);
        T.due("21 still a document", x.add(1), 1);
        x = new LiveIndex();
        T.due("21 a query of 64 bytes", Due.ask(x, "a*or a*or a*or a*or a*or a*or a*or a*or a*or a*or a*or a*or a* "), 0);
    }

    private static void open() {
        LiveIndex x = new LiveIndex();
        T.all("22 BAD", Due.BAD, x.open(-1), x.open(4), x.open(Due.LEAST), x.open(Due.MOST));
        T.due("22 empty", x.open(0), 0);
        Due.segment(x, 0, 4);
        Due.segment(x, 10, 4);
        x.drop(0);
        Due.add(x, 20, "a");
        T.due("22 not dropped in it, without the buffer", x.open(3), 7);
        T.all("22 it is open", Due.STATE, x.open(0), x.open(3));
        T.due("22 two are open", x.count(5), 2);
        x.shut(0);
        T.due("22 opened anew", x.open(0), 7);
    }

    private static void shut() {
        LiveIndex x = new LiveIndex();
        T.all("23 BAD", Due.BAD, x.shut(-1), x.shut(4), x.shut(Due.LEAST), x.shut(Due.MOST));
        T.all("23 not open", Due.STATE, x.shut(0), x.shut(3));
        Due.segment(x, 0, 1);
        Due.segment(x, 1, 1);
        Due.segment(x, 2, 1);
        x.open(0);
        x.begin();
        x.finish();
        x.open(1);
        Due.segment(x, 3, 1);
        T.due("23 1 2 3 4 5", x.count(3), 5);
        T.due("23 4 5 behind it", x.shut(0), 2);
        T.due("23 not open any more", x.shut(0), Due.STATE);
        x.write();
        x.commit();
        Due.segment(x, 4, 1);
        Due.segment(x, 5, 1);
        x.write();
        x.set(0, 1);
        x.begin();
        x.finish();
        T.due("23 4 5 committed, 4 5 6 7 written, 4 or 8", x.shut(1), 5);
        x.commit();
        T.due("23 4 5 6 7 committed", x.count(3), 5);
        x.crash();
        T.due("23 as committed", x.count(3), 4);
    }

    private static void found() {
        LiveIndex x = new LiveIndex();
        T.due("24 no query", x.found(0, 0, 0), Due.BAD);
        Due.segment(x, 7, "a b", "b", "a a");
        Due.ask(x, "a");
        x.open(0);
        T.all("24 BAD", Due.BAD, x.found(-1, 0, 0), x.found(4, 0, 0), x.found(0, -1, 0), x.found(0, 1, 0),
            x.found(0, 0, -1), x.found(0, 0, 3), x.found(0, 0, 9), x.found(0, 0, 74), x.found(0, 0, 99),
            x.found(0, 0, 164), x.found(0, 0, Due.LEAST), x.found(0, 0, Due.MOST), x.found(Due.LEAST, 0, 0),
            x.found(0, Due.MOST, 0));
        T.all("24 BAD ahead of STATE", Due.BAD, x.found(1, 1, 0), x.found(1, 0, 3));
        T.due("24 not open", x.found(1, 0, 0), Due.STATE);
        T.all("24 how many, cost", 2, x.found(0, 0, 0), x.found(0, 0, 1));
        T.due("24 worth", x.found(0, 0, 2), 3);
        T.all("24 keys", 7, x.found(0, 0, 11), x.found(0, 0, 10) - 2);
        T.all("24 worths", 1, x.found(0, 0, 101), x.found(0, 0, 100) - 1);
        T.all("24 no such one", Due.NONE, x.found(0, 0, 12), x.found(0, 0, 73), x.found(0, 0, 102), x.found(0, 0, 163));
        x.drop(9);
        Due.segment(x, 20, "a");
        x.set(2, 0);
        T.all("24 the view stays as it was, whatever the limit", 2, x.found(0, 0, 0), x.found(0, 0, 1),
            x.found(0, 0, 10) - 7);
        x.open(1);
        T.all("24 a later view", 2, x.found(1, 0, 0), x.found(1, 0, 1) - 1, x.found(1, 0, 10) - 5, x.found(1, 0, 11) - 18);
        T.due("24 no look", x.count(9), 0);
    }

    private static void foundOrder() {
        LiveIndex x = new LiveIndex();
        Due.segment(x, 50, "a", "a a", "a a a", "a a");
        Due.segment(x, 40, "a a", "b", "a a a", "a");
        Due.ask(x, "a");
        T.row("24 order", Due.rowOf(x, 0), 52, 42, 51, 53, 40, 50, 43);
        x.drop(52);
        T.row("24 without those dropped", Due.rowOf(x, 0), 42, 51, 53, 40, 50, 43);
    }

    private static void foundMany() {
        LiveIndex x = new LiveIndex();
        Due.fill(x, 64, "a");
        Due.ask(x, "a");
        x.open(2);
        T.all("24 all 64", 64, x.found(2, 0, 0), x.found(2, 0, 1), x.found(2, 0, 2));
        T.all("24 the last of 64", 63, x.found(2, 0, 73), x.found(2, 0, 163) + 62, x.found(2, 0, 10) + 63);
    }

    /** What a query is worth in a document. */
    private static int worth(String document, String query) {
        LiveIndex x = new LiveIndex();
        Due.segment(x, 0, document);
        Due.ask(x, query);
        return x.look(0, 2);
    }

    private static void worths() {
        String twelve = "a a a a a a a a a a a a";
        String[][] cases = {
            {"a b a", "a", "2"}, {"a b a", "c", "0"}, {"ab abc a abd b", "ab*", "3"}, {"ab a", "a*", "2"},
            {"b", "a*", "0"}, {"abcdef", "abcdef*", "1"}, {"z zz zzzzzz y", "z*", "3"}, {"ab", "ab", "1"},
            {"a b", "a~b", "1"}, {"b a", "a~b", "1"}, {"a x x b", "a~b", "1"}, {"a x x x b", "a~b", "0"},
            {"a b a b", "a~b", "4"}, {"a a", "a~a", "2"}, {"a", "a~a", "0"}, {"a a a", "a~a", "6"},
            {"a b x x x a", "a~b", "1"}, {twelve, "a~a", "60"},
            {"a b c", "\"a b\"", "2"}, {"a b a b", "\"a b\"", "4"}, {"a a a", "\"a a\"", "4"}, {"a x b", "\"a b\"", "0"},
            {"b a", "\"a b\"", "0"}, {"a b", "\"a\"", "1"}, {"a b c d e f", "\"a b c d e f\"", "6"},
            {"a b c d e", "\"a b c d e f\"", "0"}, {twelve, "\"a a a a a a\"", "42"},
            {"a", "not a", "0"}, {"b", "not a", "1"}, {"a a", "not not a", "1"}, {"a a", "not b and a", "3"},
            {"a b b", "a and b", "3"}, {"a", "a and b", "0"}, {"b", "a and b", "0"},
            {"a b b", "a or b", "3"}, {"a", "a or b", "1"}, {"c", "a or b", "0"},
            {"a c", "a or b and c", "1"}, {"a c", "(a or b)and c", "2"}, {"a b c", "a and b or c", "3"},
            {"c", "a and b or c", "1"}, {"a b c", "a and b and c", "3"}, {"a b", "a and b and c", "0"},
            {"a b", "not a or b", "1"}, {"c", "not a and not b", "2"}, {"b", "not(a and b)", "1"},
            {"abcdeg", "abcdef", "0"}, {"abcdeg", "abcdef*", "0"}, {"abcdeg abcdee", "abcdef~abcdee", "0"},
            {"a b c", "\"a b\" or c", "3"}, {"a b c", "\"a b c\" and c and \"c\"", "5"}, {"a b c", "\"a\" and not \"b\"", "0"},
            {"a b c", "a~b or \"b c\"", "3"}, {"a a", "a or a or a", "6"}, {"or and not", "\"or\"", "-2"}, {"a b", "a* and not(b~a)", "0"},
            {twelve, "a~a or a~a or a~a or a~a or a~a or a~a or a~a or a~a or a~a", "540"}};
        for (String[] c : cases) {
            T.due("24 worth of " + c[1] + " in " + c[0], worth(c[0], c[1]), Integer.parseInt(c[2]));
        }
    }

    private static void costs() {
        LiveIndex x = new LiveIndex();
        Due.segment(x, 0, "a b a", "ab abc", "a ab", "b");
        Due.segment(x, 10, "a", "abc c");
        x.drop(0);
        String[] texts = {"a", "q", "a*", "ab*", "a or a", "not a and b"};
        int[] due = {3, 0, 7, 4, 6, 5};
        for (int i = 0; i < texts.length; i++) {
            Due.ask(x, texts[i]);
            T.due("24 cost of " + texts[i], x.look(i, 1), due[i]);
        }
        x = new LiveIndex();
        Due.segment(x, 0, "a b a", "ab abc", "a ab", "b");
        Due.segment(x, 10, "a", "abc c");
        texts = new String[] {"a~b", "a~a or b~c and ab", "\"a b a\"", "\"abc\" or c", "(a)or(abc*)", "\"a b\" and \"c\" or a*"};
        due = new int[] {5, 11, 8, 3, 5, 13};
        for (int i = 0; i < texts.length; i++) {
            Due.ask(x, texts[i]);
            T.due("24 cost of " + texts[i], x.look(i, 1), due[i]);
        }
    }

    private static void costsOfNeighbours() {
        LiveIndex x = new LiveIndex();
        Due.segment(x, 0, "abcdef", "abcdeg abcdee", "a abcdeh");
        String[] texts = {"abcdef", "abcdef*", "\"abcdef\"", "abcdef~abcdef", "abcde*"};
        int[] due = {1, 1, 1, 2, 4};
        for (int i = 0; i < texts.length; i++) {
            Due.ask(x, texts[i]);
            T.due("24 cost of " + texts[i], x.look(i, 1), due[i]);
        }
    }

    private static void look() {
        LiveIndex x = new LiveIndex();
        T.due("25 no query", x.look(0, 0), Due.BAD);
        Due.segment(x, 0, "a", "a a", "b");
        Due.ask(x, "a");
        T.all("25 BAD", Due.BAD, x.look(-1, 0), x.look(1, 0), x.look(0, -1), x.look(0, 3), x.look(0, 9), x.look(0, 74),
            x.look(0, 99), x.look(0, 164), x.look(Due.LEAST, 0), x.look(0, Due.MOST));
        T.all("25 no look is opened by BAD", 0, x.count(9), x.count(10) + 1);
        T.all("25 answers", 2, x.look(0, 0), x.look(0, 1), x.look(0, 2) - 1, x.look(0, 10) + 1, x.look(0, 11) + 2,
            x.look(0, 12) + 3, x.look(0, 100), x.look(0, 101) + 1, x.look(0, 163) + 3);
        T.all("25 nine looks", 9, x.count(9), x.count(10), x.count(11) + 1);
        x.set(2, 2);
        T.due("25 just not DEAR", x.look(0, 0), 2);
        x.set(2, 1);
        T.all("25 DEAR, whatever is asked", Due.DEAR, x.look(0, 0), x.look(0, 1), x.look(0, 10), x.look(0, 163));
        T.all("25 shut all the same", 14, x.count(9), x.count(10), x.count(11) + 1);
        T.due("25 BAD ahead of DEAR", x.look(0, 3), Due.BAD);
        x.drop(0);
        T.due("25 a dropped one costs all the same", x.look(0, 0), Due.DEAR);
        x.set(2, 9999);
        T.due("25 segments as they are", x.look(0, 0), 1);
        Due.add(x, 9, "a");
        T.due("25 without the buffer", x.look(0, 0), 1);
        x.flush();
        T.due("25 as they are now", x.look(0, 0), 2);
    }

    private static void both() {
        LiveIndex x = new LiveIndex();
        Due.segment(x, 0, "a", "b", "a b", "a b");
        Due.segment(x, 10, "a", "b b", "c");
        T.due("26 no query", x.both(0, 0, 0), Due.BAD);
        Due.ask(x, "a");
        Due.ask(x, "b or b");
        T.all("26 BAD", Due.BAD, x.both(-1, 0, 0), x.both(0, -1, 0), x.both(2, 0, 0), x.both(0, 2, 0), x.both(0, 1, -1),
            x.both(0, 1, 2), x.both(Due.LEAST, 0, 0), x.both(0, Due.MOST, 0), x.both(0, 1, Due.MOST));
        T.due("26 none is opened", x.count(9), 0);
        T.due("26 by both", x.both(0, 1, 0), 2);
        T.all("26 the later is shut first", 2, x.count(9), x.count(10) + 1, x.count(11));
        T.due("26 by the one, not by the other", x.both(0, 1, 1), 2);
        T.due("26 the other way", x.both(1, 0, 1), 2);
        x.drop(0);
        T.due("26 one less", x.both(0, 1, 1), 1);
        T.all("26 one query twice", 0, x.both(0, 0, 1), x.both(0, 0, 0) - 3);
        T.due("26 twelve looks", x.count(9), 12);
        x.set(2, 4);
        T.due("26 the other is DEAR", x.both(0, 1, 0), Due.DEAR);
        T.all("26 two were opened", 14, x.count(9), x.count(10) + 1, x.count(11));
        T.due("26 the one is DEAR", x.both(1, 0, 0), Due.DEAR);
        T.all("26 one was opened", 15, x.count(9), x.count(10), x.count(11) + 2, x.count(12) + 1);
        T.due("26 BAD ahead of DEAR", x.both(1, 0, 2), Due.BAD);
        x.set(2, 3);
        T.due("26 both are DEAR", x.both(0, 1, 1), Due.DEAR);
        T.all("26 one was opened", 16, x.count(9), x.count(10));
        x.set(2, 8);
        T.due("26 just not DEAR", x.both(1, 0, 0), 2);
        x.crash();
        T.all("26 nothing behind a crash", 0, x.both(0, 1, 0), x.both(0, 1, 1));
    }

    private static void silence() {
        LiveIndex x = new LiveIndex();
        T.due("27 no query", x.silence(0, 0), Due.BAD);
        Due.segment(x, 0, "a", "a a a", "a a", "b");
        Due.segment(x, 10, "a a a a a", "a");
        Due.ask(x, "a");
        T.all("27 BAD", Due.BAD, x.silence(-1, 0), x.silence(1, 0), x.silence(0, -1), x.silence(0, 1000),
            x.silence(Due.LEAST, 0), x.silence(0, Due.MOST), x.silence(0, Due.LEAST));
        int[] due = {5, 4, 3, 3, 2, 2, 2, 1, 1, 1, 1, 1, 0, 0};
        for (int n = 0; n < due.length; n++) T.due("27 to " + n, x.silence(0, n), due[n]);
        T.due("27 to 999", x.silence(0, 999), 0);
        x.set(2, 0);
        T.due("27 no limit", x.silence(0, 0), 5);
        T.due("27 no look", x.count(9), 0);
        x.drop(10);
        Due.add(x, 30, "a a a a a a a");
        T.due("27 as they are", x.silence(0, 0), 4);
        T.due("27 nobody was dropped", x.count(0), 6);
    }

    private static void tells() {
        LiveIndex x = new LiveIndex();
        Due.segment(x, 5, "b", "a b", "b b");
        Due.ask(x, "b");
        Due.ask(x, "a");
        Due.ask(x, "b*");
        Due.ask(x, "q");
        x.open(1);
        x.open(2);
        T.all("28 BAD", Due.BAD, x.tells(-1, 1, 0, 0), x.tells(4, 1, 0, 0), x.tells(0, -1, 0, 0), x.tells(0, 4, 0, 0),
            x.tells(0, 1, -1, 0), x.tells(0, 1, 4, 0), x.tells(0, 1, 0, -1), x.tells(0, 1, 0, 3),
            x.tells(Due.LEAST, 1, 0, 0), x.tells(0, Due.MOST, 0, 0), x.tells(0, 1, Due.MOST, 0), x.tells(0, 1, 0, Due.MOST));
        T.all("28 BAD ahead of STATE", Due.BAD, x.tells(4, 0, 0, 0), x.tells(0, 0, 4, 0), x.tells(0, 0, 0, 3));
        T.all("28 STATE ahead of -11", Due.STATE, x.tells(0, 0, 0, 0), x.tells(0, 3, 0, 1), x.tells(0, 0, 0, 2));
        T.all("28 -11", Due.NOTHING, x.tells(0, 1, 0, 0), x.tells(0, 1, 0, 1), x.tells(0, 1, 0, 2));
        x.sheet(0, 1, 3);
        int[] keys = {7, 5, 6};
        for (int i = 0; i < 3; i++) {
            T.due("28 otherwise at " + i, x.tells(0, 1, 0, 0), i);
            T.due("28 by none", x.tells(0, 1, 0, 1), 0);
            x.cell(0, i, keys[i]);
        }
        T.due("28 just so", x.tells(0, 1, 0, 0), Due.NONE);
        T.all("28 queries", 1 | 4, x.tells(0, 1, 0, 1), x.tells(0, 1, 3, 1));
        T.all("28 views", 2 | 4, x.tells(0, 1, 0, 2), x.tells(0, 2, 2, 2), x.tells(0, 1, 1, 2) + 6);
        x.sheet(1, 1, 4);
        x.copy(0, 0, 1, 0, 3);
        T.due("28 too much", x.tells(1, 1, 0, 0), 3);
        x.sheet(2, 1, 2);
        x.copy(0, 0, 2, 0, 2);
        T.due("28 too little", x.tells(2, 1, 0, 0), 2);
        x.sheet(3, 0, 0);
        T.all("28 a row of none", 8, x.tells(3, 1, 0, 1), x.tells(3, 1, 0, 0) + 8, x.tells(3, 1, 3, 0) + 9);
        x.drop(6);
        x.open(0);
        T.all("28 a later view", 2, x.tells(0, 0, 0, 0), x.tells(2, 0, 0, 2) + 1, x.tells(0, 0, 0, 2) - 4);
        x.shut(1);
        T.due("28 a view that isn't open doesn't count", x.tells(0, 2, 0, 2), 4);
    }

    private static void film() {
        LiveIndex x = new LiveIndex();
        Due.segment(x, 96, "b", "a b", "b b", "a");
        Due.ask(x, "b");
        Due.ask(x, "q");
        x.open(1);
        T.all("29 BAD", Due.BAD, x.film(-1, 1, 0), x.film(4, 1, 0), x.film(0, -1, 0), x.film(0, 4, 0), x.film(0, 1, -1),
            x.film(0, 1, 2), x.film(Due.LEAST, 1, 0), x.film(0, Due.MOST, 0), x.film(0, 1, Due.MOST));
        T.all("29 BAD ahead of STATE", Due.BAD, x.film(4, 0, 0), x.film(0, 0, 2));
        T.due("29 not open", x.film(0, 0, 0), Due.STATE);
        T.due("29 nothing is changed by refusals", x.cell(0, 0, 0), Due.NOTHING);
        x.drop(98);
        T.due("29 three", x.film(0, 1, 0), 3);
        T.due("29 just so", x.tells(0, 1, 0, 0), Due.NONE);
        T.due("29 three items", x.cell(0, 3, 0), Due.OUTSIDE);
        x.sheet(1, 0, 3);
        T.due("29 bytes", x.copy(0, 0, 1, 0, 3), 3);
        x.sheet(1, 1, 3);
        T.due("29 not ints", x.copy(0, 0, 1, 0, 3), Due.UNLIKE);
        T.due("29 ints become bytes", x.film(1, 1, 0), 3);
        T.due("29 like sorts", x.copy(0, 0, 1, 0, 3), 3);
        T.due("29 none is found", x.film(1, 1, 1), 0);
        T.all("29 a row of none", Due.OUTSIDE, x.cell(1, 0, 0), x.cell(1, 2, 0));
        T.due("29 just so", x.tells(1, 1, 1, 0), Due.NONE);
    }

    private static void filmMany() {
        LiveIndex x = new LiveIndex();
        Due.fill(x, 44, "a");
        Due.ask(x, "a");
        for (int key = 0; key < 4; key++) x.drop(key);
        x.open(0);
        T.due("29 forty", x.film(0, 0, 0), 40);
        T.due("29 all of them", x.tells(0, 0, 0, 0), Due.NONE);
        x = new LiveIndex();
        Due.fill(x, 44, "a");
        Due.ask(x, "a");
        x.open(0);
        T.due("29 the first forty", x.film(0, 0, 0), 40);
        T.all("29 and no more", 40, x.tells(0, 0, 0, 0), x.cell(0, 39, 0) + 39, x.cell(0, 40, 0) + 52);
    }

    private static void count() {
        LiveIndex x = new LiveIndex();
        T.all("30 BAD", Due.BAD, x.count(-1), x.count(18), x.count(Due.LEAST), x.count(Due.MOST));
        Due.segment(x, 0, 3);
        Due.segment(x, 10, 1);
        Due.segment(x, 20, 1);
        x.write();
        x.commit();
        x.drop(0);
        x.begin();
        Due.add(x, 30, "a");
        Due.add(x, 31, "a");
        Due.ask(x, "a");
        Due.ask(x, "b");
        Due.ask(x, "c");
        Due.feed(x, "abcde");
        x.open(0);
        x.open(1);
        for (int i = 0; i < 4; i++) x.look(0, 0);
        T.due("30 live", x.count(0), 6);
        T.due("30 in the buffer", x.count(1), 2);
        T.due("30 segments", x.count(2), 3);
        T.due("30 held", x.count(3), 3);
        T.due("30 segments of the commit", x.count(4), 3);
        T.due("30 open views", x.count(5), 2);
        T.due("30 queries", x.count(6), 3);
        T.due("30 bytes", x.count(7), 5);
        T.due("30 no merge: tiers are unlike", x.count(8), 0);
        T.due("30 looks", x.count(9), 4);
        T.all("30 the log", 4, x.count(10), x.count(11) + 1, x.count(12) + 2, x.count(13) + 3, x.count(14) + 5);
        x.set(0, 1);
        x.begin();
        T.due("30 a merge", x.count(8), 1);
        x.finish();
        T.due("30 one more is held", x.count(3), 4);
        for (int i = 0; i < 6; i++) x.look(0, 0);
        T.all("30 the last 8 of the log", 10, x.count(9), x.count(10), x.count(13) + 3, x.count(17) + 7);
        T.due("30 not a ninth", x.count(18), Due.BAD);
    }
}
