/** What the tests of the promises share: an index under test, answers that are due, texts that are fed. */
final class Due {
    static final int NONE = -1, BAD = -2, STATE = -3, FULL = -4, DEAR = -6;
    static final int NOTHING = -11, OUTSIDE = -12, UNLIKE = -13, BELOW_ZERO = -14;
    static final int LEAST = Integer.MIN_VALUE, MOST = Integer.MAX_VALUE;

    private final String name;
    private int asked = 0;
    private int wrong = 0;
    private String sentence = "";
    private int askedBefore = 0;

    Due(String name) {
        this.name = name;
    }

    /** The next answers are due by these words of the document: each sentence has answers of its own. */
    void sentence(String words) {
        endSentence();
        sentence = words + " | ";
    }

    private void endSentence() {
        if (!sentence.isEmpty() && asked == askedBefore) {
            wrong++;
            System.out.println(name + ": nothing was asked for " + sentence);
        }
        askedBefore = asked;
    }

    void due(String call, int got, int want) {
        asked++;
        if (got != want) {
            wrong++;
            System.out.println(name + ": " + sentence + call + " answered " + got + ", due is " + want);
        }
    }

    /** The same answer from several calls, told by their number. */
    void all(String calls, int want, int... got) {
        for (int i = 0; i < got.length; i++) due(calls + " #" + i, got[i], want);
    }

    void row(String calls, int[] got, int... want) {
        due(calls + ": how many", got.length, want.length);
        for (int i = 0; i < Math.min(got.length, want.length); i++) due(calls + " #" + i, got[i], want[i]);
    }

    void end() {
        endSentence();
        System.out.println(name + ": " + asked + " answers, " + wrong + " wrong");
        if (wrong != 0) System.exit(1);
    }

    static int feed(LiveIndex x, String text) {
        int answer = text.isEmpty() ? x.count(7) : 0;
        for (int i = 0; i < text.length(); i += 5) {
            int[] b = new int[5];
            int n = Math.min(5, text.length() - i);
            for (int k = 0; k < n; k++) b[k] = text.charAt(i + k);
            answer = x.feed(n, b[0], b[1], b[2], b[3], b[4]);
        }
        return answer;
    }

    static int add(LiveIndex x, int key, String text) {
        feed(x, text);
        return x.add(key);
    }

    static int ask(LiveIndex x, String text) {
        feed(x, text);
        return x.query();
    }

    /** A segment of these texts; keys count up from the one that is given. */
    static int segment(LiveIndex x, int key, String... texts) {
        for (int i = 0; i < texts.length; i++) add(x, key + i, texts[i]);
        return x.flush();
    }

    /** A segment of n documents "a". */
    static int segment(LiveIndex x, int key, int n) {
        String[] texts = new String[n];
        java.util.Arrays.fill(texts, "a");
        return segment(x, key, texts);
    }

    /** Merges as long as the policy finds a choice. */
    static void mergeAll(LiveIndex x) {
        while (x.begin() >= 0) x.finish();
    }

    /** Segments of documents of a text with keys 0 .. n - 1, four at a time, merged whenever there are 8. */
    static void fill(LiveIndex x, int n, String text) {
        for (int key = 0; key < n; key++) {
            add(x, key, text);
            if (key % 4 == 3 || key == n - 1) {
                if (x.count(2) == 8) mergeAll(x);
                x.flush();
            }
        }
    }

    static int[] rowOf(LiveIndex x, int query) {
        int n = x.look(query, 0);
        int[] keys = new int[n];
        for (int i = 0; i < n; i++) keys[i] = x.look(query, 10 + i);
        return keys;
    }
}
