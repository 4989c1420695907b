/** Promises 1 to 7. */
public final class DocumentsTest {
    private static final Due T = new Due("documents");

    public static void main(String[] args) {
        newObject();
        feed();
        addWords();
        addFaults();
        addKeys();
        addFull();
        drop();
        dropBy();
        flush();
        flushFull();
        where();
        T.end();
    }

    private static void newObject() {
        LiveIndex x = new LiveIndex();
        for (int what = 0; what <= 9; what++) T.due("1 count(" + what + ")", x.count(what), 0);
        for (int what = 10; what <= 17; what++) T.due("1 count(" + what + ")", x.count(what), Due.NONE);
        T.all("1 kind, number", 0, x.set(0, 0), x.set(1, 0));
        T.due("1 limit", x.set(2, 9999), 9999);
        T.all("1 no segment", Due.BAD, x.told(0, 0), x.doc(0, 0, 0), x.word(0, 0, 0));
        T.all("1 no query", Due.BAD, x.look(0, 0), x.dropBy(0), x.silence(0, 0), x.both(0, 0, 0));
        T.all("1 no view is open", Due.STATE, x.shut(0), x.shut(1), x.shut(2), x.shut(3));
        T.all("1 sheets are missing", Due.NOTHING, x.cell(0, 0, 0), x.cell(1, 0, 0), x.cell(2, 0, 0), x.cell(3, 0, 0));
        T.all("1 nothing begun, written, buffered", Due.STATE, x.finish(), x.leave(), x.commit(), x.flush());
        T.due("1 crash", x.crash(), 0);
        x = new LiveIndex();
        Due.fill(x, 64, "a a a a a a a a a a a a");
        Due.ask(x, "a*or a*or a*or a*or a*or a*or a*or a*or a*or a*or a*or a*or a*");
        T.due("1 the dearest query of all isn't DEAR", x.look(0, 0), 64);
    }

    private static void feed() {
        LiveIndex x = new LiveIndex();
        T.all("2 n", Due.BAD, x.feed(0, 0, 0, 0, 0, 0), x.feed(6, 0, 0, 0, 0, 0), x.feed(-1, 0, 0, 0, 0, 0),
            x.feed(Due.LEAST, 0, 0, 0, 0, 0), x.feed(Due.MOST, 0, 0, 0, 0, 0));
        for (int v : new int[] {-1, 256, Due.LEAST, Due.MOST}) {
            T.all("2 bytes asked and not asked " + v, Due.BAD, x.feed(1, v, 0, 0, 0, 0), x.feed(1, 0, v, 0, 0, 0),
                x.feed(1, 0, 0, v, 0, 0), x.feed(1, 0, 0, 0, v, 0), x.feed(1, 0, 0, 0, 0, v));
        }
        T.due("2 nothing came", x.count(7), 0);
        T.due("2 one", x.feed(1, 0, 255, 255, 255, 255), 1);
        T.due("2 two", x.feed(2, 255, 0, 0, 0, 0), 3);
        T.due("2 three", x.feed(3, 1, 2, 3, 0, 0), 6);
        T.due("2 four", x.feed(4, 1, 2, 3, 4, 0), 10);
        T.due("2 five", x.feed(5, 1, 2, 3, 4, 5), 15);
        x = new LiveIndex();
        T.due("2 up to 60", Due.feed(x, "a".repeat(60)), 60);
        T.due("2 no room for five", x.feed(5, 97, 97, 97, 97, 97), Due.FULL);
        T.due("2 BAD ahead of FULL", x.feed(5, 97, 97, 97, 97, 256), Due.BAD);
        T.due("2 FULL changes nothing", x.count(7), 60);
        T.due("2 up to 64", x.feed(4, 97, 97, 97, 97, 97), 64);
        T.due("2 no room for one", x.feed(1, 97, 0, 0, 0, 0), Due.FULL);
        T.due("2 BAD ahead of FULL again", x.feed(0, 97, 0, 0, 0, 0), Due.BAD);
        T.due("2 still 64", x.count(7), 64);
        x = new LiveIndex();
        x.feed(5, 'a', 'b', 'c', 'd', 'e');
        x.feed(1, 'f', 'g', 'h', 'i', 'j');
        x.add(0);
        x.flush();
        T.due("2 in order, and only those that are asked", x.word(0, 0, 0), word("abcdef"));
    }

    private static int word(String letters) {
        int number = 0;
        for (char c : letters.toCharArray()) number = number * 27 + c - 'a' + 1;
        return number;
    }

    private static void addWords() {
        LiveIndex x = new LiveIndex();
        T.due("3 one word", Due.add(x, 0, "a"), 1);
        T.due("3 tape is empty", x.count(7), 0);
        T.due("3 blanks as one likes", Due.add(x, 1, "\n a  b\nabcdef \n or and not z "), 7);
        T.due("3 twelve words", Due.add(x, 99, "a b c d e f g h i j k l"), 12);
        T.due("3 last in the buffer", x.where(99), 1002);
        T.due("3 three in the buffer", x.count(1), 3);
        T.due("3 64 bytes", Due.add(x, 3, "abcdef abcdef abcdef abcdef abcdef abcdef abcdef abcdef abcdef a"), 10);
    }

    private static void addFaults() {
        LiveIndex x = new LiveIndex();
        String[] texts = {"", "  \n", "a,b", ",", "a b 9", "A", "`", "{", "abcdefg", "a abcdefg,", "a, abcdefg",
            "abcdef,", "a b c d e f g h i j k l m", "a b c d e f g h i j k l  ,m", "a b c d e f g h i j k l mnopqrs,",
            "a\tb", "a b c d e f g h i j k l m," , "a" + (char) 0, "a" + (char) 255, " a (b)", "a-", "a abcdefgh abcdefghi"};
        int[] places = {0, 3, 1, 0, 4, 0, 0, 0, 0, 2, 1, 6, 24, 25, 24, 1, 24, 1, 1, 3, 1, 2};
        T.due("3 key 5 before", Due.add(x, 5, "keep"), 1);
        for (int i = 0; i < texts.length; i++) {
            T.due("3 fault of " + texts[i], Due.add(x, 5, texts[i]), -100 - places[i]);
            T.due("3 a fault empties the tape", x.count(7), 0);
            T.due("3 a fault drops nobody", x.where(5), 1000);
        }
        T.due("3 one in the buffer", x.count(1), 1);
        Due.feed(x, "a".repeat(64));
        T.due("3 a long fault", x.add(5), -100);
        Due.feed(x, " ".repeat(64));
        T.due("3 64 blanks", x.add(5), -164);
    }

    private static void addKeys() {
        LiveIndex x = new LiveIndex();
        Due.feed(x, "a ,");
        T.all("3 no such key, ahead of a fault", Due.BAD, x.add(-1), x.add(100), x.add(Due.LEAST), x.add(Due.MOST));
        T.due("3 the tape stays", x.count(7), 3);
        T.due("3 now the fault", x.add(0), -102);
        T.due("3 one", Due.add(x, 1, "one"), 1);
        T.due("3 two", Due.add(x, 2, "two"), 1);
        T.due("3 one again", Due.add(x, 1, "one more"), 2);
        T.all("3 who was live went out of the buffer", 1, x.where(2) + 1 - 1000, x.where(1) - 1000, x.count(1) - 1);
        T.due("3 flush", x.flush(), 1);
        T.due("3 two again", Due.add(x, 2, "new"), 1);
        T.due("3 it is dropped in its segment", x.doc(0, 0, 1), 1);
        T.due("3 the other isn't", x.doc(0, 1, 1), 0);
        T.due("3 the new one is live", x.where(2), 1000);
        T.due("3 two are live", x.count(0), 2);
    }

    private static void addFull() {
        LiveIndex x = new LiveIndex();
        for (int key = 0; key < 4; key++) T.due("3 four fit", Due.add(x, key, "a"), 1);
        Due.feed(x, "a ,");
        T.due("3 BAD ahead of FULL", x.add(100), Due.BAD);
        T.due("3 FULL ahead of a fault", x.add(4), Due.FULL);
        T.due("3 the tape stays by FULL", x.count(7), 3);
        T.due("3 a key of the buffer: its fault", x.add(3), -102);
        T.due("3 a key of the buffer: has room", Due.add(x, 0, "b b"), 2);
        T.all("3 it is last", 1000, x.where(0) - 3, x.where(1), x.where(2) - 1, x.where(3) - 2);
        x.flush();
        for (int key = 10; key < 14; key++) Due.add(x, key, "a");
        T.due("3 FULL: the key is live in a segment only", Due.add(x, 0, "c"), Due.FULL);
        T.due("3 and isn't dropped then", x.where(0), 3);
        T.due("3 the tape stayed", x.count(7), 1);
    }

    private static void drop() {
        LiveIndex x = new LiveIndex();
        T.all("4 BAD", Due.BAD, x.drop(-1), x.drop(100), x.drop(Due.LEAST), x.drop(Due.MOST));
        T.all("4 none is", Due.NONE, x.drop(0), x.drop(99));
        Due.segment(x, 97, "a", "b", "c");
        Due.add(x, 0, "d");
        Due.add(x, 1, "e");
        Due.add(x, 2, "f");
        T.due("4 out of the buffer", x.drop(1), 0);
        T.due("4 not twice", x.drop(1), Due.NONE);
        T.all("4 those behind it move up", 1000, x.where(0), x.where(2) - 1);
        T.due("4 two in the buffer", x.count(1), 2);
        T.due("4 in its segment", x.drop(99), 1);
        T.due("4 not twice", x.drop(99), Due.NONE);
        T.all("4 dropped, but held", 1, x.doc(0, 2, 1), x.told(0, 0) - 2, x.told(0, 1) - 1);
        T.all("4 the others aren't", 0, x.doc(0, 0, 1), x.doc(0, 1, 1));
        Due.add(x, 97, "g");
        T.due("4 the newer one of a key, in the buffer", x.drop(97), 0);
        T.due("4 the older one was dropped by add", x.drop(97), Due.NONE);
    }

    private static void dropBy() {
        LiveIndex x = new LiveIndex();
        T.due("5 no query yet", x.dropBy(0), Due.BAD);
        Due.ask(x, "a");
        T.all("5 BAD", Due.BAD, x.dropBy(-1), x.dropBy(1), x.dropBy(6), x.dropBy(Due.LEAST), x.dropBy(Due.MOST));
        T.due("5 nothing is there", x.dropBy(0), 0);
        Due.segment(x, 0, "a", "b", "a a");
        Due.segment(x, 10, "c", "b a");
        Due.add(x, 20, "a");
        x.open(0);
        x.set(2, 0);
        T.due("5 three in segments, whatever the limit", x.dropBy(0), 3);
        T.due("5 no look", x.count(9), 0);
        T.all("5 those", 1, x.doc(0, 0, 1), x.doc(0, 2, 1), x.doc(1, 1, 1));
        T.all("5 not others", 0, x.doc(0, 1, 1), x.doc(1, 0, 1));
        T.due("5 the buffer isn't asked", x.where(20), 1000);
        T.due("5 once", x.dropBy(0), 0);
        T.due("5 a view stays as it was", x.found(0, 0, 0), 3);
        Due.ask(x, "b");
        T.due("5 another query", x.dropBy(1), 1);
        T.all("5 who was dropped stays dropped", 1, x.doc(0, 0, 1), x.doc(0, 1, 1), x.doc(0, 2, 1), x.doc(1, 1, 1));
    }

    private static void flush() {
        LiveIndex x = new LiveIndex();
        T.due("6 empty", x.flush(), Due.STATE);
        Due.add(x, 5, "a");
        Due.add(x, 6, "b");
        T.due("6 its name", x.flush(), 1);
        T.all("6 in order", 5, x.doc(0, 0, 0), x.doc(0, 1, 0) - 1);
        T.due("6 the buffer is empty", x.count(1), 0);
        T.due("6 so there is none to flush", x.flush(), Due.STATE);
        Due.add(x, 7, "c");
        T.due("6 the next name", x.flush(), 2);
        T.all("6 it is the last", 1, x.told(0, 6), x.told(1, 6) - 1);
        Due.add(x, 8, "c");
        x.drop(8);
        T.due("6 emptied by drop", x.flush(), Due.STATE);
        x.crash();
        Due.add(x, 8, "c");
        T.due("6 names go on behind a crash", x.flush(), 3);
        x.drop(8);
        x.crash();
        Due.add(x, 8, "c");
        x.flush();
        T.due("6 none is dropped in a new one", x.doc(0, 0, 1), 0);
    }

    private static void flushFull() {
        LiveIndex x = new LiveIndex();
        for (int i = 0; i < 8; i++) T.due("6 eight segments", Due.segment(x, i, 1), i + 1);
        T.due("6 STATE ahead of FULL", x.flush(), Due.STATE);
        T.due("6 a ninth", Due.segment(x, 20, 1), Due.FULL);
        T.due("6 the buffer stays", x.where(20), 1000);
        x.begin();
        x.finish();
        T.due("6 room again", x.flush(), 10);
        x = new LiveIndex();
        Due.fill(x, 62, "a");
        Due.mergeAll(x);
        for (int key = 0; key < 8; key++) x.drop(key);
        Due.add(x, 90, "a");
        Due.add(x, 91, "a");
        Due.add(x, 92, "a");
        T.due("6 segments have room", x.count(2) < 8 ? 1 : 0, 1);
        T.due("6 65 documents, dropped ones too", x.flush(), Due.FULL);
        x.drop(92);
        T.due("6 64 documents", x.flush() > 0 ? 1 : 0, 1);
        Due.add(x, 93, "a");
        T.due("6 not one more", x.flush(), Due.FULL);
    }

    private static void where() {
        LiveIndex x = new LiveIndex();
        T.all("7 BAD", Due.BAD, x.where(-1), x.where(100), x.where(Due.LEAST), x.where(Due.MOST));
        T.all("7 none", Due.NONE, x.where(0), x.where(99));
        Due.segment(x, 0, 4);
        Due.segment(x, 96, 4);
        Due.add(x, 50, "a");
        Due.add(x, 51, "a");
        T.all("7 in segments", 0, x.where(0), x.where(3) - 3, x.where(96) - 100, x.where(99) - 103);
        T.all("7 in the buffer", 1000, x.where(50), x.where(51) - 1);
        x.drop(99);
        T.due("7 dropped", x.where(99), Due.NONE);
        Due.fill(x = new LiveIndex(), 64, "a");
        Due.mergeAll(x);
        T.all("7 far places", 35, x.where(35), x.where(41) - 70, x.where(63) - 268);
    }
}
