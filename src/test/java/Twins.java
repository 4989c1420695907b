import java.util.ArrayList;
import java.util.LinkedHashMap;
import java.util.List;
import java.util.Map;

/**
 * Two objects of one history, one of them with a call more, that must answer alike whatever is asked of
 * them: so the call changed nothing. Each ending asks two new objects, since asking changes them.
 */
final class Twins {
    interface Story {
        void tell(LiveIndex x);
    }

    interface Call {
        int on(LiveIndex x);
    }

    private interface Ending {
        void ask(LiveIndex x, List<Integer> answers);
    }

    private static final Map<String, Ending> ENDINGS = new LinkedHashMap<>();

    static {
        ENDINGS.put("counts", Twins::counts);
        ENDINGS.put("keys", Twins::keys);
        ENDINGS.put("policy", Twins::policy);
        ENDINGS.put("segments", Twins::segments);
        ENDINGS.put("views", Twins::views);
        ENDINGS.put("looks", Twins::looks);
        ENDINGS.put("tape as document", Twins::tapeAsDocument);
        ENDINGS.put("tape as query", Twins::tapeAsQuery);
        ENDINGS.put("flushed", Twins::flushed);
        ENDINGS.put("finished", Twins::finished);
        ENDINGS.put("left and begun", Twins::leftAndBegun);
        ENDINGS.put("committed", Twins::committed);
        ENDINGS.put("crashed", Twins::crashed);
        ENDINGS.put("shut and opened", Twins::shutAndOpened);
        for (int i = 0; i < 4; i++) {
            int sheet = i;
            ENDINGS.put("sheet " + i, (x, a) -> sheetItems(x, sheet, a));
            ENDINGS.put("size of sheet " + i, (x, a) -> sheetSize(x, sheet, a));
        }
    }

    static final Story NEW = x -> { };
    static final Story RICH = rich("a cd ");

    /** A bit of everything, drops, a merge, what is written and committed, views, looks, sheets, and this on the tape. */
    static Story rich(String tape) {
        return x -> {
            tellRich(x);
            Due.feed(x, tape);
        };
    }

    private static void tellRich(LiveIndex x) {
        Due.segment(x, 1, "a b", "a c");
        Due.segment(x, 3, "b c");
        Due.segment(x, 4, "a a e", "f");
        x.drop(2);
        x.write();
        x.commit();
        Due.ask(x, "a");
        Due.ask(x, "c*");
        Due.ask(x, "e or not a");
        x.open(1);
        x.drop(3);
        x.open(3);
        x.write();
        x.begin();
        x.drop(5);
        x.look(0, 0);
        x.both(0, 1, 0);
        x.film(0, 1, 0);
        x.sheet(1, 1, 3);
        x.cell(1, 0, 3);
        x.cell(1, 1, 500);
        x.cell(1, 2, 4);
        x.sheet(3, 0, 0);
        Due.add(x, 8, "g");
        Due.add(x, 9, "a c");
        x.set(0, 3);
        x.set(1, 4);
        x.set(2, 50);
    }

    /** The call is refused, and who had it goes on as who had not. */
    static void refused(Due due, String name, Story story, Call call, int want) {
        LiveIndex x = new LiveIndex();
        story.tell(x);
        due.due(name, call.on(x), want);
        alike(due, name, both(story, call), story);
    }

    /** Many calls that are refused by one number. */
    static void refused(Due due, String name, Story story, int want, Call... calls) {
        for (int i = 0; i < calls.length; i++) refused(due, name + " #" + i, story, calls[i], want);
    }

    static Story then(Story story, Story more) {
        return x -> {
            story.tell(x);
            more.tell(x);
        };
    }

    static Story both(Story story, Call call) {
        return x -> {
            story.tell(x);
            call.on(x);
        };
    }

    static void alike(Due due, String name, Story one, Story other) {
        ENDINGS.forEach((ending, asks) -> {
            List<Integer> got = answers(one, asks);
            List<Integer> want = answers(other, asks);
            int same = 0;
            while (same < got.size() && same < want.size() && got.get(same).equals(want.get(same))) same++;
            String at = name + ": " + ending + ", answer " + same;
            due.due(at, same < got.size() ? got.get(same) : 0, same < want.size() ? want.get(same) : 0);
            due.due(name + ": " + ending + ", how many answers", got.size(), want.size());
        });
    }

    private static List<Integer> answers(Story story, Ending ending) {
        LiveIndex x = new LiveIndex();
        story.tell(x);
        List<Integer> answers = new ArrayList<>();
        ending.ask(x, answers);
        return answers;
    }

    private static void counts(LiveIndex x, List<Integer> to) {
        for (int what = 0; what < 18; what++) to.add(x.count(what));
    }

    private static void keys(LiveIndex x, List<Integer> to) {
        for (int key = 0; key < 100; key++) to.add(x.where(key));
    }

    private static void policy(LiveIndex x, List<Integer> to) {
        for (int what = 0; what < 3; what++) to.add(x.choice(what));
        for (int what = 0; what < 2; what++) to.add(x.cheapest(what));
        for (int k = 0; k < 6; k++) to.add(x.taken(k));
        for (int what = 0; what < 3; what++) to.add(x.set(what, 1));
    }

    /** Not more than some 250 calls, so that an object that holds much is used within its 512. */
    private static void segments(LiveIndex x, List<Integer> to) {
        int until = to.size() + 150;
        for (int s = 0; s < x.count(2); s++) {
            for (int what = 0; what < 9; what++) to.add(x.told(s, what));
            for (int i = 0; i < x.told(s, 0) && to.size() < until; i++) {
                for (int what = 0; what < 3; what++) to.add(x.doc(s, i, what));
            }
            for (int k = 0; k < x.told(s, 2) && to.size() < until; k++) {
                for (int what = 0; what < 3; what++) to.add(x.word(s, k, what));
            }
        }
    }

    private static void views(LiveIndex x, List<Integer> to) {
        for (int view = 0; view < 4; view++) {
            for (int query = 0; query < x.count(6); query++) {
                for (int what : new int[] {0, 1, 2, 10, 11, 12, 100, 101, 102}) to.add(x.found(view, query, what));
            }
        }
    }

    private static void looks(LiveIndex x, List<Integer> to) {
        for (int query = 0; query < x.count(6); query++) {
            for (int what : new int[] {0, 1, 2, 10, 11, 100}) to.add(x.look(query, what));
            to.add(x.both(query, 0, 0));
            for (int n = 0; n < 3; n++) to.add(x.silence(query, n));
        }
        counts(x, to);
    }

    private static void tapeAsDocument(LiveIndex x, List<Integer> to) {
        x.crash();
        to.add(x.add(50));
        to.add(x.flush());
        if (x.count(2) <= 4) segments(x, to);
        to.add(x.word(x.count(2) - 1, 0, 0));
    }

    private static void tapeAsQuery(LiveIndex x, List<Integer> to) {
        to.add(x.query());
        to.add(Due.ask(x, "((((c))))"));
        to.add(Due.ask(x, "a"));
        if (x.count(2) <= 4) looks(x, to);
    }

    private static void flushed(LiveIndex x, List<Integer> to) {
        to.add(x.flush());
        segments(x, to);
    }

    private static void finished(LiveIndex x, List<Integer> to) {
        to.add(x.finish());
        segments(x, to);
    }

    private static void leftAndBegun(LiveIndex x, List<Integer> to) {
        to.add(x.leave());
        to.add(x.begin());
        to.add(x.finish());
        segments(x, to);
    }

    private static void committed(LiveIndex x, List<Integer> to) {
        to.add(x.commit());
        to.add(x.crash());
        segments(x, to);
        to.add(x.count(3));
    }

    private static void crashed(LiveIndex x, List<Integer> to) {
        to.add(x.crash());
        segments(x, to);
        counts(x, to);
    }

    private static void shutAndOpened(LiveIndex x, List<Integer> to) {
        for (int view = 0; view < 4; view++) to.add(x.shut(view));
        for (int view = 0; view < 4; view++) to.add(x.open(view));
        views(x, to);
    }

    /** Of what sort it is, and which keys its first items are, told by rows of one item each. */
    private static void sheetItems(LiveIndex x, int sheet, List<Integer> to) {
        int other = (sheet + 1) % 4;
        for (int sort = 0; sort < 2; sort++) {
            x.sheet(other, sort, 0);
            to.add(x.copy(sheet, 0, other, 0, 0));
            x.sheet(other, sort, 1);
            for (int i = 0; i < 4; i++) {
                to.add(x.copy(sheet, i, other, 0, 1));
                for (int query = 0; query < x.count(6); query++) {
                    to.add(x.tells(other, 1, query, 0));
                    to.add(x.tells(other, 3, query, 0));
                }
            }
        }
        for (int query = 0; query < x.count(6); query++) {
            for (int what = 0; what < 3; what++) to.add(x.tells(sheet, 1, query, what));
        }
    }

    private static void sheetSize(LiveIndex x, int sheet, List<Integer> to) {
        for (int i = -1; i <= 40; i++) to.add(x.cell(sheet, i, 7));
    }
}
