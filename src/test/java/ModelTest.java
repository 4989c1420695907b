import java.lang.reflect.Method;
import java.util.ArrayList;
import java.util.List;
import java.util.Map;
import java.util.Random;
import java.util.TreeMap;

/** Runs of calls, chosen with a fixed seed, that LiveIndex and Model must answer alike. */
public final class ModelTest {
    private static final int RUNS = 1500;
    private static final String[] WORDS = {"a", "b", "ab", "abc", "abcdef", "z", "zz", "or", "and", "not", "b"};
    private static final String[] LEAVES = {"a", "b", "ab", "a*", "ab*", "z*", "a~b", "a ~ a", "\"a b\"", "\"a\"",
        "\"b a b\"", "zz", "abcdef*", "q"};
    private static final int[] EDGES = {Integer.MIN_VALUE, -101, -100, -15, -2, -1, 0, 1, 2, 3, 4, 5, 6, 7, 8, 9, 10,
        12, 17, 18, 39, 40, 41, 63, 64, 73, 74, 99, 100, 101, 163, 164, 255, 256, 300, 999, 1000, 9999, 10000,
        Integer.MAX_VALUE};

    private static int wrong = 0;
    private static final Map<String, Integer> seen = new TreeMap<>();

    private final Random random;
    private final LiveIndex index = new LiveIndex();
    private final Model model = new Model();
    private final List<String> calls = new ArrayList<>();
    private final Method[] methods;
    private boolean failed = false;

    private ModelTest(long seed, Method[] methods) {
        this.random = new Random(seed);
        this.methods = methods;
    }

    public static void main(String[] args) throws Exception {
        List<Method> face = new ArrayList<>();
        for (Method m : LiveIndex.class.getDeclaredMethods()) {
            if (java.lang.reflect.Modifier.isPublic(m.getModifiers())) face.add(m);
        }
        face.sort((a, b) -> a.getName().compareTo(b.getName()));
        int runs = args.length > 0 ? Integer.parseInt(args[0]) : RUNS;
        long first = args.length > 1 ? Long.parseLong(args[1]) : 1;
        for (int run = 0; run < runs && wrong < 3; run++) {
            new ModelTest(first + run, face.toArray(new Method[0])).go();
        }
        if (args.length > 2) seen.forEach((k, v) -> System.out.println(k + " " + v));
        System.out.println(wrong == 0 ? "model: all answers are alike" : "model: " + wrong + " runs are unlike");
        if (wrong != 0) System.exit(1);
    }

    private void go() throws Exception {
        int mood = random.nextInt(6);
        // an object is used for 512 calls; some runs go far beyond, since no call may ever throw
        int length = random.nextInt(50) == 0 ? 3000 : 512;
        if (mood >= 4) manyDocuments(mood == 5);
        for (int i = 0; i < length && !failed && calls.size() < length; i++) {
            if (mood == 3 && random.nextInt(3) == 0) {
                anyCall();
            } else {
                likelyCall(mood);
            }
        }
        if (failed) {
            wrong++;
            calls.forEach(System.out::println);
        }
    }

    private int call(String name, int... args) throws Exception {
        if (failed) return 0;
        for (Method m : methods) {
            if (!m.getName().equals(name)) continue;
            Object[] boxed = new Object[args.length];
            for (int i = 0; i < args.length; i++) boxed[i] = args[i];
            int got = (Integer) m.invoke(index, boxed);
            int want = (Integer) Model.class.getDeclaredMethod(name, m.getParameterTypes()).invoke(model, boxed);
            calls.add(name + java.util.Arrays.toString(args) + " = " + got);
            seen.merge(name + (want >= 0 ? " answers" : want <= -100 ? " fault" : " " + want), 1, Integer::sum);
            if (got != want) {
                failed = true;
                calls.add("due is " + want);
            }
            return want;
        }
        throw new IllegalStateException(name);
    }

    private void anyCall() throws Exception {
        Method m = methods[random.nextInt(methods.length)];
        int[] args = new int[m.getParameterCount()];
        for (int i = 0; i < args.length; i++) {
            args[i] = random.nextInt(3) == 0 ? EDGES[random.nextInt(EDGES.length)] : random.nextInt(5);
        }
        call(m.getName(), args);
    }

    private void feedText(String text) throws Exception {
        for (int i = 0; i < text.length(); i += 5) {
            int n = Math.min(5, text.length() - i);
            int[] args = new int[6];
            args[0] = n;
            for (int k = 0; k < n; k++) args[1 + k] = text.charAt(i + k);
            call("feed", args);
        }
    }

    private String document() {
        StringBuilder text = new StringBuilder();
        int words = random.nextInt(10) == 0 ? 10 + random.nextInt(4) : 1 + random.nextInt(5);
        for (int i = 0; i < words; i++) {
            text.append(WORDS[random.nextInt(random.nextBoolean() ? 2 : WORDS.length)]);
            text.append(random.nextInt(9) == 0 ? "\n " : " ");
        }
        if (random.nextInt(25) == 0) text.insert(random.nextInt(text.length()), random.nextBoolean() ? "," : "abcdefg");
        return text.substring(0, Math.min(64, text.length()));
    }

    private String part(int depth) {
        switch (random.nextInt(depth > 0 ? 8 : 3)) {
            case 3: return "not " + part(depth - 1);
            case 4: return "(" + part(depth - 1) + ")";
            case 5: return part(depth - 1) + " and " + part(depth - 1);
            case 6: return part(depth - 1) + " or " + part(depth - 1);
            case 7: return "not(" + part(depth - 1) + ")";
            default: return LEAVES[random.nextInt(LEAVES.length)];
        }
    }

    private String queryText() {
        StringBuilder text = new StringBuilder(part(1 + random.nextInt(4)));
        String[] odd = {"(", ")", "\"", "*", "~", "or", " and ", " not ", " ", "\n", "A", "abcdefg", "a", " b", "\"a b a b a b\""};
        for (int n = random.nextInt(4) - 1; n > 0; n--) {
            text.insert(random.nextInt(text.length() + 1), odd[random.nextInt(odd.length)]);
        }
        return text.substring(0, Math.min(64, text.length()));
    }

    private int query() {
        return random.nextInt(12) == 0 ? 6 : random.nextInt(6);
    }

    private int foundWhat() {
        int[] whats = {0, 1, 2, 10, 11, 12, 13, 100, 101, 102, 103, 20, 110, 73, 163};
        return whats[random.nextInt(whats.length)];
    }

    /** Up to 64 documents in segments, so that the rest of the run meets full rows. */
    private void manyDocuments(boolean merged) throws Exception {
        call("set", 0, random.nextInt(3));
        for (int key = 0; key < 68; key++) {
            feedText(WORDS[random.nextInt(WORDS.length)] + " " + WORDS[random.nextInt(3)]);
            call("add", (key * 37) % 100);
            if (key % 4 == 3) call("flush");
            if (key % 12 == 11 && random.nextInt(9) > 0) {
                call("begin");
                if (merged) call("drop", random.nextInt(100));
                call("finish");
            }
        }
    }

    /** A view is opened, filmed and told from, once what was filmed may have changed. */
    private void readBack() throws Exception {
        int sheet = random.nextInt(4);
        int view = random.nextInt(4);
        call("open", view);
        call("film", sheet, view, query());
        if (random.nextInt(3) == 0) call("drop", random.nextInt(100));
        if (random.nextInt(3) == 0) call("cell", sheet, random.nextInt(3), random.nextInt(100));
        if (random.nextInt(3) == 0) call("open", random.nextInt(4));
        for (int what = 0; what < 3; what++) call("tells", sheet, random.nextInt(4), query(), what);
        call("tells", sheet, view, query(), random.nextInt(3));
    }

    private void likelyCall(int mood) throws Exception {
        int dice = random.nextInt(100);
        if (dice < 22) {
            feedText(document());
            call("add", random.nextInt(mood == 0 ? 12 : 100));
        } else if (dice < 32) {
            call("flush");
        } else if (dice < 38) {
            feedText(queryText());
            call("query");
        } else if (dice < 62) {
            segmentCall(mood);
        } else if (dice < 68) {
            commitCall();
        } else if (dice < 70) {
            readBack();
        } else if (dice < 94) {
            queryCall();
        } else {
            hostCall();
        }
    }

    private void segmentCall(int mood) throws Exception {
        switch (random.nextInt(13)) {
            case 0: call("drop", random.nextInt(mood == 0 ? 12 : 100)); break;
            case 1: call("where", random.nextInt(mood == 0 ? 12 : 100)); break;
            case 2: call("told", random.nextInt(5), random.nextInt(9)); break;
            case 3: call("doc", random.nextInt(3), random.nextInt(8), random.nextInt(3)); break;
            case 4: call("word", random.nextInt(3), random.nextInt(8), random.nextInt(3)); break;
            case 5: call("set", 0, random.nextInt(6)); break;
            case 6: call("set", 1, random.nextInt(10)); break;
            case 7: call("taken", random.nextInt(6)); break;
            case 8: call("choice", random.nextInt(3)); break;
            case 9: call("begin"); break;
            case 10: call("finish"); break;
            case 11: call(random.nextInt(4) == 0 ? "leave" : "finish"); break;
            default: call("cheapest", random.nextInt(2));
        }
    }

    private void commitCall() throws Exception {
        int dice = random.nextInt(9);
        call(dice < 4 ? "write" : dice < 8 ? "commit" : "crash");
    }

    private void queryCall() throws Exception {
        switch (random.nextInt(12)) {
            case 0: call("open", random.nextInt(4)); break;
            case 1: call("shut", random.nextInt(4)); break;
            case 2:
            case 3: call("found", random.nextInt(4), query(), foundWhat()); break;
            case 4:
            case 5: call("look", query(), foundWhat()); break;
            case 6: call("both", query(), query(), random.nextInt(2)); break;
            case 7: call("silence", query(), random.nextInt(12)); break;
            case 8: call("tells", random.nextInt(4), random.nextInt(4), query(), random.nextInt(3)); break;
            case 9: call("film", random.nextInt(4), random.nextInt(4), query()); break;
            case 10: call("count", random.nextInt(18)); break;
            default:
                if (random.nextInt(6) == 0) call("dropBy", query());
                else call("set", 2, random.nextInt(3) == 0 ? random.nextInt(20) : 9999);
        }
    }

    private void hostCall() throws Exception {
        switch (random.nextInt(4)) {
            case 0: call("sheet", random.nextInt(4), random.nextInt(3) - 1, random.nextInt(6)); break;
            case 1: call("cell", random.nextInt(4), random.nextInt(5), random.nextInt(12)); break;
            default:
                call("copy", random.nextInt(4), random.nextInt(4), random.nextInt(4), random.nextInt(4),
                    random.nextInt(4));
        }
    }
}
