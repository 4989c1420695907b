import java.util.ArrayList;
import java.util.Collections;
import java.util.Comparator;
import java.util.HashSet;
import java.util.IdentityHashMap;
import java.util.LinkedHashMap;
import java.util.List;
import java.util.Map;
import java.util.Set;
import java.util.TreeMap;

/**
 * The document told a second time, slowly and with the library's collections: no bits, no packed
 * words, no steps. ModelTest lets it and LiveIndex answer the same calls.
 */
final class Model {
    static final int NONE = -1, BAD = -2, STATE = -3, FULL = -4, DEAR = -6;

    static final class Doc {
        final int key;
        final List<String> words;

        Doc(int key, List<String> words) {
            this.key = key;
            this.words = words;
        }
    }

    static final class Seg {
        final int name;
        final List<Doc> docs;

        Seg(int name, List<Doc> docs) {
            this.name = name;
            this.docs = docs;
        }
    }

    /** Segments and the documents that are dropped in them. */
    static final class Shot {
        final List<Seg> segs = new ArrayList<>();
        final Set<Doc> dropped = Collections.newSetFromMap(new IdentityHashMap<>());

        Shot copied() {
            Shot shot = new Shot();
            shot.segs.addAll(segs);
            shot.dropped.addAll(dropped);
            return shot;
        }

        List<Doc> all() {
            List<Doc> docs = new ArrayList<>();
            segs.forEach(s -> docs.addAll(s.docs));
            return docs;
        }

        List<Doc> live() {
            List<Doc> docs = all();
            docs.removeIf(dropped::contains);
            return docs;
        }

        int live(Seg seg) {
            return (int) seg.docs.stream().filter(d -> !dropped.contains(d)).count();
        }
    }

    static final class Token {
        final String text;
        final int place;

        Token(String text, int place) {
            this.text = text;
            this.place = place;
        }

        boolean isWord() {
            return text.matches("[a-z]{1,6}") && !text.equals("or") && !text.equals("and") && !text.equals("not");
        }
    }

    private String tape = "";
    private final List<Doc> buffer = new ArrayList<>();
    private Shot now = new Shot();
    private Shot written;
    private Shot committed = new Shot();
    private final Shot[] views = new Shot[4];
    private int names;
    private int kind;
    private int number;
    private int limit = 9999;
    private List<Seg> merging;
    private List<Doc> coming;
    private final List<List<Token>> queries = new ArrayList<>();
    private int looks;
    private final List<Integer> log = new ArrayList<>();
    private final int[][] sheets = new int[4][];
    private final int[] sorts = new int[4];

    // ---- documents

    int feed(int n, int a, int b, int c, int d, int e) {
        int[] all = {a, b, c, d, e};
        for (int v : all) {
            if (v < 0 || v > 255) return BAD;
        }
        if (n < 1 || n > 5) return BAD;
        if (tape.length() + n > 64) return FULL;
        for (int i = 0; i < n; i++) tape += (char) all[i];
        return tape.length();
    }

    int add(int key) {
        if (key < 0 || key > 99) return BAD;
        if (buffer.size() == 4 && buffer.stream().noneMatch(x -> x.key == key)) return FULL;
        String text = tape;
        tape = "";
        int fault = documentFault(text);
        if (fault >= 0) return -100 - fault;
        drop(key);
        List<String> words = List.of(text.replace('\n', ' ').trim().split(" +"));
        buffer.add(new Doc(key, words));
        return words.size();
    }

    /** Each byte by itself: can it stand there, does a word begin with it that is too long or the 13th? */
    private static int documentFault(String text) {
        int words = 0;
        for (int i = 0; i < text.length(); i++) {
            char c = text.charAt(i);
            boolean letter = c >= 'a' && c <= 'z';
            if (!letter && c != ' ' && c != '\n') return i;
            boolean begins = letter && (i == 0 || !Character.isLetter(text.charAt(i - 1)));
            if (begins && text.substring(i).matches("(?s)[a-z]{7}.*")) return i;
            if (begins && ++words == 13) return i;
        }
        return words == 0 ? text.length() : -1;
    }

    int drop(int key) {
        if (key < 0 || key > 99) return BAD;
        if (buffer.removeIf(x -> x.key == key)) return 0;
        for (Doc doc : now.live()) {
            if (doc.key == key) {
                now.dropped.add(doc);
                return 1;
            }
        }
        return NONE;
    }

    int dropBy(int query) {
        if (query < 0 || query >= queries.size()) return BAD;
        List<Doc> found = foundIn(now, query);
        now.dropped.addAll(found);
        return found.size();
    }

    int flush() {
        if (buffer.isEmpty()) return STATE;
        if (now.segs.size() == 8 || now.all().size() + buffer.size() > 64) return FULL;
        now.segs.add(new Seg(++names, new ArrayList<>(buffer)));
        buffer.clear();
        return names;
    }

    int where(int key) {
        if (key < 0 || key > 99) return BAD;
        for (int i = 0; i < buffer.size(); i++) {
            if (buffer.get(i).key == key) return 1000 + i;
        }
        for (int s = 0; s < now.segs.size(); s++) {
            List<Doc> docs = now.segs.get(s).docs;
            for (int i = 0; i < docs.size(); i++) {
                if (docs.get(i).key == key && !now.dropped.contains(docs.get(i))) return 100 * s + i;
            }
        }
        return NONE;
    }

    // ---- segments

    private static TreeMap<String, List<Integer>> dictionary(Seg seg) {
        TreeMap<String, List<Integer>> places = new TreeMap<>();
        for (int i = 0; i < seg.docs.size(); i++) {
            for (String w : new HashSet<>(seg.docs.get(i).words)) {
                places.computeIfAbsent(w, k -> new ArrayList<>()).add(i);
            }
        }
        return places;
    }

    private static boolean stands(Shot shot, Seg seg) {
        return shot != null && shot.segs.stream().anyMatch(s -> s.name == seg.name);
    }

    int told(int segment, int what) {
        if (segment < 0 || segment >= now.segs.size() || what < 0 || what > 8) return BAD;
        Seg seg = now.segs.get(segment);
        int inViews = 0;
        for (Shot view : views) inViews += stands(view, seg) ? 1 : 0;
        int[] answers = {seg.docs.size(), now.live(seg), dictionary(seg).size(),
            dictionary(seg).values().stream().mapToInt(List::size).sum(), size(seg), tier(seg), seg.name, inViews,
            stands(committed, seg) ? 1 : 0};
        return answers[what];
    }

    int doc(int segment, int place, int what) {
        if (segment < 0 || segment >= now.segs.size() || what < 0 || what > 2) return BAD;
        List<Doc> docs = now.segs.get(segment).docs;
        if (place < 0 || place >= docs.size()) return -12;
        Doc doc = docs.get(place);
        return what == 0 ? doc.key : what == 1 ? now.dropped.contains(doc) ? 1 : 0 : doc.words.size();
    }

    int word(int segment, int k, int what) {
        if (segment < 0 || segment >= now.segs.size() || what < 0 || what > 2) return BAD;
        List<Map.Entry<String, List<Integer>>> entries =
            new ArrayList<>(dictionary(now.segs.get(segment)).entrySet());
        if (k < 0 || k >= entries.size()) return -12;
        if (what == 1) return entries.get(k).getValue().size();
        if (what == 2) return entries.get(k).getValue().stream().mapToInt(i -> i).sum();
        int number = 0;
        for (char c : entries.get(k).getKey().toCharArray()) number = number * 27 + c - 'a' + 1;
        return number;
    }

    int set(int what, int v) {
        int[] most = {5, 9, 9999};
        if (what < 0 || what > 2 || v < 0 || v > most[what]) return BAD;
        int was = what == 0 ? kind : what == 1 ? number : limit;
        if (what == 0) kind = v;
        if (what == 1) number = v;
        if (what == 2) limit = v;
        return was;
    }

    int taken(int k) {
        if (k < 0 || k > 5) return BAD;
        Map<Integer, Set<Integer>> isAlso = Map.of(0, Set.of(0), 1, Set.of(0, 1), 2, Set.of(0, 2),
            3, Set.of(0, 1, 3), 4, Set.of(0, 2, 4), 5, Set.of(0, 5));
        return isAlso.get(kind).contains(k) ? number : -13;
    }

    private int size(Seg seg) {
        if (kind == 2) return now.live(seg);
        if (kind == 4) return Math.max(0, now.live(seg) - number);
        return seg.docs.size();
    }

    private int tier(Seg seg) {
        int size = size(seg);
        return size <= 2 ? 0 : size <= 6 ? 1 : size <= 14 ? 2 : 3;
    }

    private boolean fits(List<Seg> segs) {
        boolean tiered = tier(segs.get(0)) < 3 && segs.stream().allMatch(s -> tier(s) == tier(segs.get(0)));
        if (kind == 3) return tiered || segs.stream().mapToInt(this::size).sum() <= number;
        if (kind == 4) return tiered && segs.stream().anyMatch(s -> now.live(s) < s.docs.size());
        return tiered;
    }

    private List<Seg> chosen() {
        int width = new int[] {3, 2, 3, 2, 2, 9}[kind];
        List<List<Seg>> fitting = new ArrayList<>();
        for (int i = 0; i + width <= now.segs.size(); i++) {
            List<Seg> segs = new ArrayList<>(now.segs.subList(i, i + width));
            if (fits(segs)) fitting.add(segs);
        }
        fitting.sort(Comparator.comparingInt(segs -> tier(segs.get(0))));
        return fitting.isEmpty() ? null : fitting.get(0);
    }

    int choice(int what) {
        if (what < 0 || what > 2) return BAD;
        List<Seg> segs = chosen();
        if (what == 0) return segs == null ? NONE : now.segs.indexOf(segs.get(0));
        if (segs == null) return 0;
        return what == 1 ? segs.size() : segs.stream().mapToInt(now::live).sum();
    }

    int begin() {
        if (merging != null) return STATE;
        List<Seg> segs = chosen();
        if (segs == null) return NONE;
        merging = segs;
        coming = new ArrayList<>();
        for (Seg seg : segs) coming.addAll(seg.docs);
        coming.removeIf(now.dropped::contains);
        return coming.size();
    }

    int finish() {
        if (merging == null) return STATE;
        int at = now.segs.indexOf(merging.get(0));
        now.segs.removeAll(merging);
        merging = null;
        if (coming.isEmpty()) return 0;
        now.segs.add(at, new Seg(++names, coming));
        return names;
    }

    int leave() {
        if (merging == null) return STATE;
        merging = null;
        return 1;
    }

    /** Least cost of merging the segments from .. to - 1 to one, by trying every last two. */
    private int least(int from, int to, int[] firstCount) {
        if (to - from < 2) return 0;
        int both = 0;
        for (int i = from; i < to; i++) both += now.live(now.segs.get(i));
        int best = Integer.MAX_VALUE;
        for (int n = 1; n < to - from; n++) {
            int cost = both + least(from, from + n, null) + least(from + n, to, null);
            if (cost < best) {
                best = cost;
                if (firstCount != null) firstCount[0] = n;
            }
        }
        return best;
    }

    int cheapest(int what) {
        if (what < 0 || what > 1) return BAD;
        int[] firstCount = {NONE};
        int cost = least(0, now.segs.size(), firstCount);
        return what == 0 ? cost : firstCount[0];
    }

    // ---- commits

    int write() {
        written = now.copied();
        return written.segs.size();
    }

    int commit() {
        if (written == null) return STATE;
        committed = written;
        written = null;
        return committed.segs.size();
    }

    int crash() {
        now = committed.copied();
        buffer.clear();
        written = null;
        merging = null;
        for (int i = 0; i < 4; i++) views[i] = null;
        return now.segs.size();
    }

    // ---- queries, views

    private static List<Token> tokens(String text) {
        List<Token> tokens = new ArrayList<>();
        for (int i = 0; i < text.length();) {
            char c = text.charAt(i);
            int end = i;
            while (end < text.length() && text.charAt(end) >= 'a' && text.charAt(end) <= 'z') end++;
            end = Math.max(end, i + 1);
            if (c != ' ' && c != '\n') tokens.add(new Token(text.substring(i, end), i));
            i = end;
        }
        return tokens;
    }

    /** Left to right with what is open on a stack: the place of the fault, or -1. */
    private static int queryFault(List<Token> tokens, int size) {
        StringBuilder open = new StringBuilder();
        boolean asksOne = true;
        for (int i = 0; i < tokens.size(); i++) {
            Token t = tokens.get(i);
            if (!asksOne) {
                if (t.text.equals("or") || t.text.equals("and")) {
                    asksOne = true;
                    continue;
                }
                if (!t.text.equals(")") || open.indexOf("(") < 0) return t.place;
                open.setLength(open.lastIndexOf("("));
            } else if (t.text.equals("not") || t.text.equals("(")) {
                if (open.length() == 4) return t.place;
                open.append(t.text.charAt(0));
                continue;
            } else if (t.text.equals("\"")) {
                int words = 0;
                while (++i < tokens.size() && tokens.get(i).isWord() && words < 6) words++;
                if (i >= tokens.size()) return size;
                if (words == 0 || !tokens.get(i).text.equals("\"")) return tokens.get(i).place;
                asksOne = false;
            } else if (t.isWord()) {
                asksOne = false;
                String behind = i + 1 < tokens.size() ? tokens.get(i + 1).text : "";
                if (behind.equals("*")) i++;
                if (behind.equals("~")) {
                    i += 2;
                    if (i >= tokens.size()) return size;
                    if (!tokens.get(i).isWord()) return tokens.get(i).place;
                }
            } else {
                return t.place;
            }
            while (open.length() > 0 && open.charAt(open.length() - 1) == 'n') open.setLength(open.length() - 1);
        }
        return asksOne || open.indexOf("(") >= 0 ? size : -1;
    }

    int query() {
        if (queries.size() == 6) return FULL;
        List<Token> tokens = tokens(tape);
        int fault = queryFault(tokens, tape.length());
        tape = "";
        if (fault >= 0) return -100 - fault;
        queries.add(tokens);
        return queries.size() - 1;
    }

    /** Reckons a query's worth straight from its tokens. */
    static final class Reckoner {
        final List<Token> tokens;
        final List<String> words;
        int at;

        Reckoner(List<Token> tokens, List<String> words) {
            this.tokens = tokens;
            this.words = words;
        }

        String peek() {
            return at < tokens.size() ? tokens.get(at).text : "";
        }

        int either() {
            int sum = bothOf();
            while (peek().equals("or")) {
                at++;
                sum += bothOf();
            }
            return sum;
        }

        int bothOf() {
            int worth = one();
            while (peek().equals("and")) {
                at++;
                int next = one();
                worth = worth == 0 || next == 0 ? 0 : worth + next;
            }
            return worth;
        }

        int one() {
            String t = tokens.get(at++).text;
            if (t.equals("not")) return one() == 0 ? 1 : 0;
            if (t.equals("(")) {
                int worth = either();
                at++;
                return worth;
            }
            if (t.equals("\"")) return phrase();
            if (peek().equals("*")) {
                at++;
                return (int) words.stream().filter(w -> w.startsWith(t)).count();
            }
            if (peek().equals("~")) {
                at += 2;
                return near(t, tokens.get(at - 1).text);
            }
            return Collections.frequency(words, t);
        }

        int phrase() {
            List<String> row = new ArrayList<>();
            while (!peek().equals("\"")) row.add(tokens.get(at++).text);
            at++;
            int times = 0;
            for (int i = 0; i + row.size() <= words.size(); i++) {
                if (words.subList(i, i + row.size()).equals(row)) times++;
            }
            return times * row.size();
        }

        int near(String a, String b) {
            int twos = 0;
            for (int i = 0; i < words.size(); i++) {
                for (int j = 0; j < words.size(); j++) {
                    if (words.get(i).equals(a) && words.get(j).equals(b) && i != j && Math.abs(i - j) <= 3) twos++;
                }
            }
            return twos;
        }
    }

    private int worth(Doc doc, int query) {
        return Math.min(999, new Reckoner(queries.get(query), doc.words).either());
    }

    private List<Doc> foundIn(Shot shot, int query) {
        Map<Doc, Integer> worths = new LinkedHashMap<>();
        for (Doc doc : shot.live()) {
            int worth = worth(doc, query);
            if (worth > 0) worths.put(doc, worth);
        }
        List<Doc> found = new ArrayList<>(worths.keySet());
        found.sort(Comparator.comparingInt(d -> -worths.get(d)));
        return found;
    }

    private int cost(Shot shot, int query) {
        List<Token> tokens = queries.get(query);
        int cost = 0;
        for (int i = 0; i < tokens.size(); i++) {
            if (!tokens.get(i).isWord()) continue;
            String word = tokens.get(i).text;
            boolean starred = i + 1 < tokens.size() && tokens.get(i + 1).text.equals("*");
            for (Seg seg : shot.segs) {
                for (Map.Entry<String, List<Integer>> e : dictionary(seg).entrySet()) {
                    boolean counts = starred ? e.getKey().startsWith(word) : e.getKey().equals(word);
                    cost += counts ? e.getValue().size() : 0;
                }
            }
        }
        return cost;
    }

    int open(int view) {
        if (view < 0 || view > 3) return BAD;
        if (views[view] != null) return STATE;
        views[view] = now.copied();
        return now.live().size();
    }

    int shut(int view) {
        if (view < 0 || view > 3) return BAD;
        if (views[view] == null) return STATE;
        views[view] = null;
        return held();
    }

    private int held() {
        Set<Integer> held = new HashSet<>();
        List<Shot> shots = new ArrayList<>(List.of(views[0] == null ? now : views[0],
            views[1] == null ? now : views[1], views[2] == null ? now : views[2],
            views[3] == null ? now : views[3], written == null ? now : written, committed, now));
        for (Shot shot : shots) shot.segs.forEach(s -> held.add(s.name));
        return held.size();
    }

    private static boolean isFoundWhat(int what) {
        return (what >= 0 && what <= 2) || (what >= 10 && what <= 73) || (what >= 100 && what <= 163);
    }

    private int foundAnswer(Shot shot, int query, int what) {
        List<Doc> found = foundIn(shot, query);
        if (what == 0) return found.size();
        if (what == 1) return cost(shot, query);
        if (what == 2) return found.stream().mapToInt(d -> worth(d, query)).sum();
        int i = what < 100 ? what - 10 : what - 100;
        if (i >= found.size()) return NONE;
        return what < 100 ? found.get(i).key : worth(found.get(i), query);
    }

    private boolean isQuery(int query) {
        return query >= 0 && query < queries.size();
    }

    int found(int view, int query, int what) {
        if (view < 0 || view > 3 || !isQuery(query) || !isFoundWhat(what)) return BAD;
        return views[view] == null ? STATE : foundAnswer(views[view], query, what);
    }

    int look(int query, int what) {
        if (!isQuery(query) || !isFoundWhat(what)) return BAD;
        int look = ++looks;
        try {
            return cost(now, query) > limit ? DEAR : foundAnswer(now, query, what);
        } finally {
            log.add(0, look);
        }
    }

    int both(int one, int other, int what) {
        if (!isQuery(one) || !isQuery(other) || what < 0 || what > 1) return BAD;
        int first = ++looks;
        try {
            if (cost(now, one) > limit) return DEAR;
            List<Doc> found = foundIn(now, one);
            int second = ++looks;
            try {
                if (cost(now, other) > limit) return DEAR;
                List<Doc> too = foundIn(now, other);
                return (int) found.stream().filter(d -> too.contains(d) == (what == 0)).count();
            } finally {
                log.add(0, second);
            }
        } finally {
            log.add(0, first);
        }
    }

    /** The fewest drops, by asking what the k least of them are worth. */
    int silence(int query, int n) {
        if (!isQuery(query) || n < 0 || n > 999) return BAD;
        int[] worths = foundIn(now, query).stream().mapToInt(d -> worth(d, query)).sorted().toArray();
        int kept = 0;
        int sum = 0;
        while (kept < worths.length && sum + worths[kept] <= n) sum += worths[kept++];
        return worths.length - kept;
    }

    private int otherwise(int sheet, Shot shot, int query) {
        List<Doc> found = foundIn(shot, query);
        int[] row = sheets[sheet];
        for (int i = 0; i < Math.max(row.length, found.size()); i++) {
            if (i >= row.length || i >= found.size() || row[i] != found.get(i).key) return i;
        }
        return NONE;
    }

    int tells(int sheet, int view, int query, int what) {
        if (sheet < 0 || sheet > 3 || view < 0 || view > 3 || !isQuery(query) || what < 0 || what > 2) return BAD;
        if (views[view] == null) return STATE;
        if (sheets[sheet] == null) return -11;
        if (what == 0) return otherwise(sheet, views[view], query);
        int bits = 0;
        for (int i = 0; i < (what == 1 ? queries.size() : 4); i++) {
            Shot shot = what == 1 ? views[view] : views[i];
            if (shot != null && otherwise(sheet, shot, what == 1 ? i : query) == NONE) bits += 1 << i;
        }
        return bits;
    }

    int film(int sheet, int view, int query) {
        if (sheet < 0 || sheet > 3 || view < 0 || view > 3 || !isQuery(query)) return BAD;
        if (views[view] == null) return STATE;
        sheets[sheet] = foundIn(views[view], query).stream().limit(40).mapToInt(d -> d.key).toArray();
        sorts[sheet] = 0;
        return sheets[sheet].length;
    }

    int count(int what) {
        if (what < 0 || what > 17) return BAD;
        if (what >= 10) return what - 10 < log.size() ? log.get(what - 10) : NONE;
        int open = 0;
        for (Shot view : views) open += view == null ? 0 : 1;
        int[] answers = {buffer.size() + now.live().size(), buffer.size(), now.segs.size(), held(),
            committed.segs.size(), open, queries.size(), tape.length(), merging == null ? 0 : 1, looks};
        return answers[what];
    }

    // ---- the host

    int sheet(int sheet, int sort, int n) {
        if (sheet < 0 || sheet > 3 || sort < -1 || sort > 1) return BAD;
        if (sort >= 0 && n > 40) return BAD;
        if (sort >= 0 && n < 0) return -14;
        sheets[sheet] = sort < 0 ? null : new int[n];
        sorts[sheet] = sort;
        return 1;
    }

    int cell(int sheet, int i, int v) {
        if (sheet < 0 || sheet > 3) return BAD;
        if (sheets[sheet] == null) return -11;
        if (i < 0 || i >= sheets[sheet].length) return -12;
        sheets[sheet][i] = sorts[sheet] == 0 ? (byte) v : v;
        return 1;
    }

    int copy(int sheet, int i, int other, int j, int n) {
        if (sheet < 0 || sheet > 3 || other < 0 || other > 3) return BAD;
        if (sheets[sheet] == null || sheets[other] == null) return -11;
        if (sorts[sheet] != sorts[other]) return -13;
        if (i < 0 || j < 0 || n < 0 || (long) i + n > sheets[sheet].length || (long) j + n > sheets[other].length) {
            return -12;
        }
        int[] taken = new int[n];
        for (int k = 0; k < n; k++) taken[k] = sheets[sheet][i + k];
        for (int k = 0; k < n; k++) sheets[other][j + k] = taken[k];
        return n;
    }
}
