/** The boundary sentences of the Terms, part 1: the tape as a query, worth, what is found, what it costs. */
public final class QueryTermsBoundsTest {
    private static final Due T = new Due("query terms' bounds");
    private static final String TWELVE = "a a a a a a a a a a a a";

    public static void main(String[] args) {
        tokens();
        signsAndBlanks();
        phraseWords();
        keysAreNoWords();
        endsTooEarly();
        cannotStand();
        tooLong();
        openParts();
        openTill();
        sixQueries();
        faultLeavesAll();
        worthOfWord();
        worthOfBeginning();
        worthOfNear();
        worthOfPhrase();
        worthOfNot();
        worthOfAnd();
        worthOfOr();
        worthAtMost();
        foundAboveNone();
        foundInOrder();
        costOfWords();
        costOfBeginnings();
        T.end();
    }

    /** Its number, or -100 less the place of its fault, as a query of a new object. */
    private static int read(String text) {
        return Due.ask(new LiveIndex(), text);
    }

    private static void dueReads(String... texts) {
        for (String text : texts) T.due("reads " + text, read(text), 0);
    }

    private static void dueFault(int place, String... texts) {
        for (String text : texts) T.due("fault of " + text, read(text), -100 - place);
    }

    private static int worth(String document, String query) {
        LiveIndex x = new LiveIndex();
        Due.segment(x, 0, document);
        Due.ask(x, query);
        return x.look(0, 2);
    }

    private static void dueWorth(int want, String document, String query) {
        T.due("worth of " + query + " in " + document, worth(document, query), want);
    }

    private static void tokens() {
        T.sentence("As a QUERY: TOKENS, each as long as can be: WORDS, SIGNS");
        dueReads("ora", "anda", "nota", "notnot", "andor", "aor", "a or orb", "a and andy", "not nots");
        dueFault(2, "a orb", "a andb", "a\norb");
        dueFault(4, "ora b", "ora (b)");
        dueFault(5, "nota b", "anda b");
        dueReads("a or b", "a\nor\nb", "(a)or(b)", "\"a\"or\"b\"", "a*or b", "not(a)", "not\"a\"");
        T.due("a word beginning with a key is one word", worth("ora a", "ora"), 1);
    }

    private static void signsAndBlanks() {
        T.sentence("SIGNS ( ) \" * ~ ; blanks may stand between");
        dueReads("(a)", "( a )", "\n(\na\n)\n", "a*", "a *", "a\n*", "a~b", "a ~b", "a~ b", "a\n~\nb", "\"a\"", "\" a \"",
            "\"a b\"", "\"a\nb\"", "not ( not ( a ) )");
        for (int v = 0; v <= 255; v++) {
            char c = (char) v;
            boolean letter = v >= 'a' && v <= 'z';
            int want = letter ? 0 : v == 32 || v == 10 ? -101 : v == '(' || v == '"' ? -101 : -100;
            T.due("byte " + v + " alone", read("" + c), want);
            boolean stands = letter || v == 32 || v == 10 || v == '*';
            int behind = v == '~' ? -102 : stands ? 0 : -101;
            T.due("byte " + v + " behind a word", read("a" + c), behind);
        }
        T.due("a beginning told with a blank", worth("ab", "a *"), 1);
    }

    private static void phraseWords() {
        T.sentence("\" WORD { WORD } \" (6 WORDS at most)");
        String[] words = {"a", "b", "c", "d", "e", "f", "g"};
        StringBuilder row = new StringBuilder();
        for (int n = 1; n <= 6; n++) {
            row.append(n > 1 ? " " : "").append(words[n - 1]);
            dueReads("\"" + row + "\"");
            T.due("worth of " + n, worth(row.toString(), "\"" + row + "\""), n);
        }
        dueFault(1, "\"\"", "\"");
        dueFault(2, "\" \"");
        dueFault(13, "\"a b c d e f g\"", "\"a b c d e f g", "\"a b c d e f g h\"");
        dueFault(12, "\"a b c d e f");
        dueFault(13, "\"a b c d e f ");
        dueReads("\"a b c d e f\"or\"a b c d e f\"or\"a b c d e f\"or\"a b c d e f\"");
    }

    private static void keysAreNoWords() {
        T.sentence("or, and, not are KEYS, no WORDS (in DOCUMENTS they are)");
        for (String key : new String[] {"or", "and", "not"}) {
            dueFault(key.equals("not") ? 3 : 0, key);
            dueFault(key.equals("not") ? 3 : 0, key + "*", key + "~a");
            dueFault(1, "\"" + key + "\"");
            dueFault(3, "\"a " + key + "\"");
            dueFault(2, "a~" + key);
            T.due("in a document " + key, Due.add(new LiveIndex(), 0, key), 1);
        }
        T.due("three words", Due.add(new LiveIndex(), 0, "or and not"), 3);
        T.due("begins so", worth("or and not o", "o*"), 2);
    }

    private static void endsTooEarly() {
        T.sentence("(the text's size, if it ends too early)");
        String[] texts = {"", "not", "(", "((((", "(a", "(a or", "(a or b", "a or", "a and", "a~", "\"", "\"a", "\"a b",
            "not not", "not(", "not(a", "a or not", "a and(b", "a or\"b", "(a)and"};
        for (String text : texts) {
            for (String blanks : new String[] {"", " ", "\n \n"}) {
                String whole = text + blanks;
                dueFault(whole.length(), whole);
            }
        }
        dueFault(64, " ".repeat(64), "a" + " ".repeat(61) + "or", "(" + "a".repeat(6) + " ".repeat(57));
        dueReads("a".repeat(6) + " ".repeat(58), " ".repeat(63) + "a");
    }

    private static void cannotStand() {
        T.sentence("FAULT: the place of the first byte of the first TOKEN, from left to right, that can't stand there");
        dueFault(0, "or a", "and a", ")", "*", "~", "*a", "~a", ")a");
        dueFault(2, "a b", "a (b)", "a not b", "a \"b\"", "a )", "a b c", "a b )", "a b $");
        dueFault(2, "a**", "a*~b", "a*b", "a~(b)", "a~\"b\"", "a~*", "a~)", "a~~b", "\"a(\"", "\"a~b\"",
            "\"a*\"");
        dueFault(3, "a~b*", "a~b~c", "a~b(c)", "a~b\"c\"", "(a)(b)", "(a)\"b\"", "(a)*", "(a)~b", "\"a\"*", "\"a\"~b",
            "(a))", "not)", "not*", "not~a");
        dueFault(1, "a)", "()", "(*a)", "(~a)", "()a");
        dueFault(5, "a or or b", "a or and b", "a or )", "a or *", "a or ~b");
        dueFault(6, "a and or b", "a and and b", "a and )");
        dueFault(4, "not or a", "not and a", "a or)");
        dueReads("a or not b", "a and not b", "not not a", "a or(b)", "a and\"b\"");
    }

    private static void tooLong() {
        T.sentence("also of a byte that begins none, a WORD that is too long");
        dueReads("abcdef", "abcdef*", "a~abcdef", "\"abcdef\"", "not abcdef");
        dueFault(0, "abcdefg", "abcdefg or b", "notabcd", "andandand", "abcdefg$", "a".repeat(64), "$", "A", "$ a");
        dueFault(2, "a abcdefg", "a~abcdefg", "a~$", "a $", "a*$", "a*abcdefg");
        dueFault(1, "\"abcdefg\"", "(abcdefg)", "(A)", "a$", "\"A\"", "a,b", "a1", "aB");
        dueFault(3, "\"a abcdefg\"", "a~b$", "\"a $\"");
        dueFault(5, "a or abcdefg", "a or $");
        dueFault(4, "not abcdefg", "not $");
    }

    /** Each row of n opening parts: bits tell which are not, the others are (. */
    private static String opened(int n, int bits) {
        StringBuilder text = new StringBuilder();
        for (int i = 0; i < n; i++) text.append((bits >> i & 1) == 1 ? "not " : "(");
        return text.toString();
    }

    private static String closed(int n, int bits) {
        return ")".repeat(n - Integer.bitCount(bits));
    }

    private static void openParts() {
        T.sentence("a ( or a not while 4 of these are open");
        for (int n = 0; n <= 4; n++) {
            for (int bits = 0; bits < 1 << n; bits++) dueReads(opened(n, bits) + "a" + closed(n, bits));
        }
        for (int bits = 0; bits < 32; bits++) {
            int place = opened(4, bits & 15).length();
            dueFault(place, opened(5, bits) + "a" + closed(5, bits), opened(5, bits), opened(5, bits) + "$");
        }
        dueReads("((((a or b))))", "((((a))and b)or c)", "not not not not a*", "(((not\"a b\")))");
    }

    private static void openTill() {
        T.sentence("(a ( till its ) , not till its ONE ends)");
        dueReads("((((a))))or((((b))))and((((c))))or((((d))))", "(a)or(a)or(a)or(a)or(a)or(a)or(a)or(a)or(a)",
            "not a or not a or not a or not a or not a or not a", "not not not not a and not not not not b",
            "not not not not a and(b)", "(((not a)and(b)))", "(((not a and(b))))", "(((not a or not b)))",
            "not not(not a)and not not not(b)", "not(not(a)and(not b))", "not(not(a)and((b)))",
            "not\"a\"and(not not not b)", "not a~b and(not not not b)", "not a*and(not not not b)");
        // three are open behind "(((not a": the not has ended with its ONE
        dueFault(12, "(((not a or((b))))");
        dueFault(17, "(((not a or(b)or((b))))");
        // three are open behind "not(not(a)and(", where "not(a)" has ended, both of it
        dueFault(17, "not(not(a)and(not(b)))");
        dueFault(15, "not(not(a)and(((b))))");
        // a not stays open as long as the ( that is its ONE
        dueFault(11, "not not(not(a))");
        dueFault(8, "not(not(not a))", "not(not((a)))");
        dueFault(10, "not((a or(not b)))", "not((a or((b))))");
    }

    private static void sixQueries() {
        T.sentence("There are 6 QUERIES at most");
        LiveIndex x = new LiveIndex();
        for (int i = 0; i < 6; i++) {
            T.due("a faulty one takes no room", Due.ask(x, "or"), -100);
            T.due("query " + i, Due.ask(x, "a"), i);
            T.due("how many", x.count(6), i + 1);
        }
        T.due("no seventh", Due.ask(x, "a"), Due.FULL);
        T.all("numbers", 0, x.look(0, 0), x.look(5, 0), x.look(6, 0) + 2, x.look(-1, 0) + 2);
    }

    private static void faultLeavesAll() {
        T.sentence("FAULT ... (by a FAULT, too, THE TAPE is empty then)");
        for (String text : new String[] {"", "or", "a b", "(a or b", "((((a", "not not(not a b", "c* or c* or abcdefg",
            "\"a b c d e f g\"", "\"c\" or \"c c\" or"}) {
            Twins.alike(T, "it changes nothing but the tape: " + text, Twins.both(Twins.rich(text), x -> x.query()),
                Twins.rich(""));
        }
        LiveIndex x = new LiveIndex();
        for (int i = 0; i < 20; i++) T.due("a phrase left open", Due.ask(x, "\"b b b b b b\"or\"a"), -117);
        Due.ask(x, "\"a b c d e f\"");
        Due.segment(x, 0, "b b b b b b", "a b c d e f", "a");
        T.row("nothing of it is in the next", Due.rowOf(x, 0), 1);
    }

    private static void worthOfWord() {
        T.sentence("a WORD: at how many PLACES it has it");
        dueWorth(0, "b", "a");
        dueWorth(1, "a", "a");
        dueWorth(12, TWELVE, "a");
        dueWorth(0, "ab aa ba", "a");
        dueWorth(1, "abcdef abcdeg abcdee abcde", "abcdef");
        dueWorth(1, "b a", "a");
    }

    private static void worthOfBeginning() {
        T.sentence("with * : at how many it has a WORD that begins so (also just that)");
        dueWorth(1, "a", "a*");
        dueWorth(3, "a az azzzzz b", "a*");
        dueWorth(12, TWELVE, "a*");
        dueWorth(0, "b ba bab", "a*");
        dueWorth(2, "ab abz ac a aa", "ab*");
        dueWorth(3, "z zz zzzzzz yzzzzz", "z*");
        dueWorth(1, "zzzzzz zzzzzy", "zzzzzz*");
        dueWorth(2, "zzzzzz zzzzz zzzzyz", "zzzzz*");
        dueWorth(1, "abcdef abcde", "abcdef*");
        String[] next = {"b", "ac", "abd", "abce", "abcdf", "abcdeg"};
        String[] ahead = {"zzzzzz", "aazzzz", "abbzzz", "abcczz", "abcddz", "abcdee"};
        for (int letters = 1; letters <= 6; letters++) {
            String begins = "abcdef".substring(0, letters);
            dueWorth(1, begins + "z".repeat(6 - letters), begins + "*");
            dueWorth(1, begins + "a".repeat(6 - letters), begins + "*");
            dueWorth(0, next[letters - 1], begins + "*");
            dueWorth(0, ahead[letters - 1], begins + "*");
        }
    }

    private static void worthOfNear() {
        T.sentence("a ~ b: how many twos of a PLACE of a and a PLACE of b are 3 or less apart, but not the same PLACE");
        for (int apart = 1; apart <= 11; apart++) {
            String between = " x".repeat(apart - 1) + " ";
            dueWorth(apart <= 3 ? 1 : 0, "a" + between + "b", "a~b");
            dueWorth(apart <= 3 ? 1 : 0, "b" + between + "a", "a~b");
            dueWorth(apart <= 3 ? 2 : 0, "a" + between + "a", "a~a");
        }
        dueWorth(0, "a", "a~a");
        dueWorth(0, "a", "a~b");
        dueWorth(0, "b", "a~b");
        dueWorth(60, TWELVE, "a~a");
        dueWorth(4, "a b b a", "a~b");
        dueWorth(6, "b b b a b b b", "a~b");
        dueWorth(6, "b b b b a b b b b", "a~b");
        dueWorth(0, "ab b", "a~b");
    }

    private static void worthOfPhrase() {
        T.sentence("a phrase of m WORDS: m times how often it has them one right behind another");
        dueWorth(12, TWELVE, "\"a\"");
        dueWorth(22, TWELVE, "\"a a\"");
        dueWorth(42, TWELVE, "\"a a a a a a\"");
        dueWorth(6, "a b c d e f", "\"a b c d e f\"");
        dueWorth(0, "a b c d e", "\"a b c d e f\"");
        dueWorth(0, "a b c d e x f", "\"a b c d e f\"");
        dueWorth(0, "x b c d e f", "\"a b c d e f\"");
        dueWorth(0, "a b c d e x", "\"a b c d e f\"");
        dueWorth(2, "x x x x x x x x x x a b", "\"a b\"");
        dueWorth(0, "b a", "\"a b\"");
        dueWorth(0, "a", "\"a a\"");
    }

    private static void worthOfNot() {
        T.sentence("not: 1, if the part's is 0, else 0");
        dueWorth(1, "b", "not a");
        dueWorth(0, "a", "not a");
        dueWorth(0, TWELVE, "not a");
        dueWorth(1, TWELVE, "not not a");
        dueWorth(0, TWELVE, "not not not a");
        dueWorth(1, "b b", "not not not a");
        dueWorth(1, "a", "not(a and b)");
        dueWorth(0, "b", "not(a or b)");
    }

    private static void worthOfAnd() {
        T.sentence("and: both together, if neither is 0, else 0");
        dueWorth(2, "a b", "a and b");
        dueWorth(12, TWELVE.substring(2) + " b", "a and b");
        dueWorth(0, "a a a", "a and b");
        dueWorth(0, "b b b", "a and b");
        dueWorth(0, "c", "a and b");
        dueWorth(3, "a b c", "a and b and c");
        dueWorth(0, "a b", "a and b and c");
        dueWorth(0, "b c", "a and b and c");
        dueWorth(4, "a a", "a and a");
    }

    private static void worthOfOr() {
        T.sentence("or: both together");
        dueWorth(2, "a b", "a or b");
        dueWorth(1, "a", "a or b");
        dueWorth(1, "b", "a or b");
        dueWorth(0, "c", "a or b");
        dueWorth(24, TWELVE, "a or a");
        dueWorth(2, "c c", "a and b or c");
        dueWorth(2, "c c", "c or a and b");
        dueWorth(0, "c c", "(c or a)and b");
    }

    private static void worthAtMost() {
        T.sentence("WORTH of the QUERY: 999 at most");
        // 64 bytes and 12 words allow no more than this, so that 999 is never reached: it isn't cut
        String most = "a~a or a~a or a~a or a~a or a~a or a~a or a~a or a~a or a~a or a";
        T.due("bytes", most.length(), 64);
        dueWorth(9 * 60 + 12, TWELVE, most);
        LiveIndex x = new LiveIndex();
        Due.fill(x, 4, TWELVE);
        Due.ask(x, most);
        T.due("of one query in four documents together it may be more", x.look(0, 2), 4 * 552);
        T.due("silence counts all of it", x.silence(0, 999), 3);
    }

    private static void foundAboveNone() {
        T.sentence("FOUND ...: DOCUMENTS that aren't DROPPED with WORTH above 0");
        LiveIndex x = new LiveIndex();
        Due.ask(x, "a");
        T.all("no segments", 0, x.look(0, 0), x.look(0, 2), x.look(0, 10) + 1, x.look(0, 100) + 1);
        Due.segment(x, 0, "b", "a", "c", "a a");
        T.row("worth 1 is found, worth 0 isn't", Due.rowOf(x, 0), 3, 1);
        x.drop(3);
        T.row("not the dropped one", Due.rowOf(x, 0), 1);
        x.drop(1);
        T.row("none", Due.rowOf(x, 0));
        Due.fill(x = new LiveIndex(), 64, "a");
        Due.ask(x, "a");
        T.all("all of 64", 64, x.look(0, 0), x.look(0, 2), x.look(0, 73) + 1, x.look(0, 163) + 63);
    }

    private static void foundInOrder() {
        T.sentence("greatest WORTH first, of like ones as they stand (SEGMENTS in order, in each its DOCUMENTS in order)");
        LiveIndex x = new LiveIndex();
        Due.segment(x, 90, "a", "a a");
        Due.segment(x, 10, "a a", "a");
        Due.segment(x, 50, "a a a", "a");
        Due.ask(x, "a");
        T.row("order", Due.rowOf(x, 0), 50, 91, 10, 90, 11, 51);
        Due.add(x, 90, "a a a");
        x.flush();
        T.row("a newer one stands behind", Due.rowOf(x, 0), 50, 90, 91, 10, 11, 51);
    }

    private static void costOfWords() {
        T.sentence("COST: of each WORD that the QUERY names, as often as it names it, POSTINGS in each SEGMENT, together");
        LiveIndex x = new LiveIndex();
        Due.segment(x, 0, "a b", TWELVE);
        Due.segment(x, 10, "a c");
        x.drop(0);
        int[] want = {3, 6, 4, 3, 3, 6};
        String[] texts = {"a", "a or a", "a~b", "not a", "\"a x\"", "not(a and a)"};
        for (int i = 0; i < 6; i++) {
            Due.ask(x, texts[i]);
            T.due("cost of " + texts[i], x.look(i, 1), want[i]);
        }
        LiveIndex y = new LiveIndex();
        Due.ask(y, "\"a b a\" or zz");
        T.due("no segments", y.look(0, 1), 0);
        Due.segment(y, 0, "a b");
        T.due("a phrase's words, as often as it names them", y.look(0, 1), 3);
        T.all("though it isn't found", 0, y.look(0, 0), y.look(0, 2));
        T.due("two phrases, each by itself", y.look(Due.ask(y, "\"a\"or\"b b\"or\"a\""), 1), 4);
        LiveIndex z = new LiveIndex();
        Due.segment(z, 0, "abcdee abcdeg abcde abcdf z zz y");
        for (String text : new String[] {"abcdef", "\"abcdef\"", "abcdef~abcdef", "zzzzzz~yzzzzz"}) {
            T.due("not of its neighbours: " + text, z.look(Due.ask(z, text), 1), 0);
        }
    }

    private static void costOfBeginnings() {
        T.sentence("of a WORD with *: of all WORDS of the DICTIONARY that begin so");
        LiveIndex x = new LiveIndex();
        Due.segment(x, 0, "a ab abc b", "ab az", "zzzzzz z");
        Due.segment(x, 10, "a zz");
        String[] texts = {"a*", "ab*", "abc*", "z*", "zzzzzz*", "q*"};
        int[] want = {6, 3, 1, 3, 1, 0};
        for (int i = 0; i < 6; i++) {
            Due.ask(x, texts[i]);
            T.due("cost of " + texts[i], x.look(i, 1), want[i]);
        }
    }
}
