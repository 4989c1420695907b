/** The boundary sentences of promises 31 to 33, and that what they refuse changes nothing. */
public final class HostBoundsTest {
    private static final Due T = new Due("host's bounds");
    private static final int BYTES = 0, INTS = 1;

    public static void main(String[] args) {
        sheet();
        sheetMissing();
        sheetBad();
        sheetBelow();
        cell();
        cellBytes();
        cellRefused();
        copy();
        copyOverItself();
        copyBad();
        copyNothing();
        copyUnlike();
        copyOutside();
        T.end();
    }

    /** How many items a sheet has, told by its first place outside. */
    private static int sizeOf(LiveIndex x, int sheet) {
        int size = 0;
        while (size < 50 && x.cell(sheet, size, 0) == 1) size++;
        return size;
    }

    private static void sheet() {
        T.sentence("31 sheet: A SHEET becomes a row of n of a sort, all 0 ...: 1 (n above 40: BAD; below 0: -14)");
        for (int sort = 0; sort < 2; sort++) {
            for (int n = 0; n <= 40; n += n == 1 ? 38 : 1) {
                LiveIndex x = new LiveIndex();
                T.row("of " + n, new int[] {x.sheet(3, sort, n), x.cell(3, n - 1, 0), x.cell(3, n, 0), sizeOf(x, 3)},
                    1, n == 0 ? Due.OUTSIDE : 1, Due.OUTSIDE, n);
                T.row("anew", new int[] {x.sheet(3, 1 - sort, 40 - n), sizeOf(x, 3)}, 1, 40 - n);
            }
        }
        LiveIndex x = new LiveIndex();
        Due.segment(x, 0, 1);
        Due.ask(x, "a");
        x.open(0);
        x.sheet(0, INTS, 40);
        for (int i = 0; i < 40; i++) x.cell(0, i, 7);
        for (int sort = 0; sort < 2; sort++) {
            x.sheet(0, sort, 40);
            x.sheet(1, sort, 1);
            for (int i = 0; i < 40; i++) {
                x.copy(0, i, 1, 0, 1);
                T.due("all 0: item " + i, x.tells(1, 0, 0, 0), Due.NONE);
                x.cell(1, 0, 9);
            }
        }
    }

    private static void sheetMissing() {
        T.sentence("31 sheet: or missing (sort -1: n does not matter): 1");
        for (int n : new int[] {Due.LEAST, -1, 0, 1, 40, 41, Due.MOST}) {
            LiveIndex x = new LiveIndex();
            x.sheet(0, BYTES, 2);
            T.row("n " + n, new int[] {x.sheet(0, -1, n), x.cell(0, 0, 0), x.sheet(0, -1, n), x.cell(0, 0, 0)},
                1, Due.NOTHING, 1, Due.NOTHING);
        }
        Twins.refused(T, "what is missing stays missing", Twins.RICH, x -> x.sheet(2, -1, 5), 1);
    }

    private static void sheetBad() {
        T.sentence("31 sheet: BAD: no such SHEET, sort; n above 40");
        Twins.refused(T, "no such", Twins.RICH, Due.BAD, x -> x.sheet(-1, 0, 1), x -> x.sheet(4, 0, 1), x -> x.sheet(0, -2, 1),
            x -> x.sheet(0, 2, 1), x -> x.sheet(4, -1, 1), x -> x.sheet(-1, -1, 0));
        Twins.refused(T, "n above 40", Twins.RICH, Due.BAD, x -> x.sheet(0, 0, 41), x -> x.sheet(1, 1, 41),
            x -> x.sheet(2, 0, Due.MOST));
        Twins.refused(T, "ahead of -14", Twins.RICH, Due.BAD, x -> x.sheet(-1, 0, -1), x -> x.sheet(4, 1, -1),
            x -> x.sheet(0, 2, -1), x -> x.sheet(0, -2, Due.LEAST));
        for (int far : new int[] {Due.LEAST, Due.MOST}) {
            Twins.refused(T, "far", Twins.RICH, Due.BAD, x -> x.sheet(far, 0, 1), x -> x.sheet(0, far, 1));
        }
    }

    private static void sheetBelow() {
        T.sentence("31 sheet: -14");
        Twins.refused(T, "n below 0", Twins.RICH, Due.BELOW_ZERO, x -> x.sheet(0, 0, -1), x -> x.sheet(1, 1, -1),
            x -> x.sheet(2, 0, Due.LEAST), x -> x.sheet(3, 1, -40));
    }

    /** Key 5 is found by query 0 in view 0, and nothing by query 1. */
    private static LiveIndex reader() {
        LiveIndex x = new LiveIndex();
        Due.segment(x, 5, 1);
        Due.ask(x, "a");
        Due.ask(x, "q");
        x.open(0);
        return x;
    }

    private static void cell() {
        T.sentence("32 cell: Item i of a SHEET becomes v: 1");
        LiveIndex x = reader();
        x.sheet(0, INTS, 40);
        x.sheet(1, INTS, 1);
        for (int i : new int[] {0, 1, 39}) {
            T.due("item " + i, x.cell(0, i, 5), 1);
            x.copy(0, i, 1, 0, 1);
            T.due("it is 5", x.tells(1, 0, 0, 0), Due.NONE);
        }
        x.copy(0, 2, 1, 0, 1);
        T.due("another isn't", x.tells(1, 0, 0, 0), 0);
        x.copy(0, 38, 1, 0, 1);
        T.due("another isn't", x.tells(1, 0, 0, 0), 0);
    }

    private static void cellBytes() {
        T.sentence("32 cell: (of bytes its lowest 8 bits)");
        LiveIndex x = reader();
        x.sheet(0, BYTES, 1);
        x.sheet(1, INTS, 1);
        int[] values = {5, 256 + 5, -256 + 5, -251, 5 - 65536, Due.LEAST + 5, Due.MOST - 250, 4, 6, 5 + 128, -5, 255, 256};
        for (int v : values) {
            T.all("cells", 1, x.cell(0, 0, v), x.cell(1, 0, v));
            T.due("a byte of " + v, x.tells(0, 0, 0, 0), (v & 255) == 5 ? Due.NONE : 0);
            T.due("an int of " + v, x.tells(1, 0, 0, 0), v == 5 ? Due.NONE : 0);
        }
    }

    private static void cellRefused() {
        T.sentence("32 cell: BAD: no such SHEET; -11; -12");
        Twins.refused(T, "no such sheet, ahead of all", Twins.RICH, Due.BAD, x -> x.cell(-1, 0, 9), x -> x.cell(4, 0, 9),
            x -> x.cell(-1, -1, 9), x -> x.cell(4, 99, 9), x -> x.cell(Due.LEAST, 0, 9), x -> x.cell(Due.MOST, 0, 9));
        Twins.refused(T, "missing, ahead of -12", Twins.RICH, Due.NOTHING, x -> x.cell(2, 0, 9), x -> x.cell(2, -1, 9),
            x -> x.cell(2, 40, 9), x -> x.cell(2, Due.MOST, 9));
        Twins.refused(T, "outside", Twins.RICH, Due.OUTSIDE, x -> x.cell(1, -1, 9), x -> x.cell(1, 3, 9), x -> x.cell(3, 0, 9),
            x -> x.cell(0, 2, 9), x -> x.cell(1, 40, 9), x -> x.cell(1, Due.LEAST, 9), x -> x.cell(1, Due.MOST, 9));
    }

    private static void copy() {
        T.sentence("33 copy: n numbers of a SHEET, from item i on, come to another one's item j on: n");
        for (int sort = 0; sort < 2; sort++) {
            LiveIndex x = new LiveIndex();
            Due.segment(x, 1, 4);
            Due.ask(x, "a");
            x.open(0);
            x.sheet(0, sort, 6);
            for (int i = 0; i < 4; i++) x.cell(0, 2 + i, 1 + i);
            x.sheet(1, sort, 4);
            T.row("none, at the ends", new int[] {x.copy(0, 0, 1, 0, 0), x.copy(0, 6, 1, 4, 0), x.copy(0, 6, 0, 6, 0)}, 0, 0, 0);
            T.row("one, two at the ends", new int[] {x.copy(0, 5, 1, 3, 1), x.copy(0, 2, 1, 0, 1), x.copy(0, 3, 1, 1, 2)},
                1, 1, 2);
            T.due("they came", x.tells(1, 0, 0, 0), Due.NONE);
            x.sheet(2, sort, 4);
            T.row("all", new int[] {x.copy(1, 0, 2, 0, 4), x.tells(2, 0, 0, 0), x.tells(1, 0, 0, 0)}, 4, Due.NONE, Due.NONE);
            x.sheet(3, sort, 40);
            x.sheet(2, sort, 40);
            T.row("forty", new int[] {x.copy(2, 0, 3, 0, 40), x.copy(2, 0, 3, 0, 41), x.copy(2, 1, 3, 0, 40)},
                40, Due.OUTSIDE, Due.OUTSIDE);
        }
    }

    private static void copyOverItself() {
        T.sentence("33 copy: (as they were)");
        for (int to = 0; to <= 4; to++) {
            for (int from = 0; from <= 4; from++) {
                LiveIndex x = new LiveIndex();
                Due.segment(x, 1, 4);
                Due.ask(x, "a");
                x.open(0);
                x.sheet(0, INTS, 8);
                for (int i = 0; i < 4; i++) x.cell(0, from + i, 1 + i);
                T.due("from " + from + " to " + to, x.copy(0, from, 0, to, 4), 4);
                x.sheet(1, INTS, 4);
                x.copy(0, to, 1, 0, 4);
                T.due("as they were", x.tells(1, 0, 0, 0), Due.NONE);
            }
        }
    }

    private static void copyBad() {
        T.sentence("33 copy: BAD: no such SHEET");
        Twins.refused(T, "ahead of all", Twins.RICH, Due.BAD, x -> x.copy(-1, 0, 0, 0, 1), x -> x.copy(4, 0, 0, 0, 1),
            x -> x.copy(0, 0, -1, 0, 1), x -> x.copy(0, 0, 4, 0, 1), x -> x.copy(2, 0, 4, 0, 1), x -> x.copy(4, 0, 2, 0, 1),
            x -> x.copy(0, 9, 4, 9, -1));
        for (int far : new int[] {Due.LEAST, Due.MOST}) {
            Twins.refused(T, "far", Twins.RICH, Due.BAD, x -> x.copy(far, 0, 0, 0, 1), x -> x.copy(0, 0, far, 0, 1));
        }
    }

    private static void copyNothing() {
        T.sentence("33 copy: -11");
        Twins.refused(T, "the one, the other, both; ahead of -13, -12", Twins.RICH, Due.NOTHING, x -> x.copy(2, 0, 0, 0, 1),
            x -> x.copy(0, 0, 2, 0, 1), x -> x.copy(2, 0, 2, 0, 1), x -> x.copy(2, 0, 1, 0, 0), x -> x.copy(1, 0, 2, 0, 0),
            x -> x.copy(2, -1, 1, 9, -1), x -> x.copy(1, 9, 2, -1, Due.MOST));
    }

    private static void copyUnlike() {
        T.sentence("33 copy: -13: they are of unlike sorts");
        Twins.refused(T, "ahead of -12", Twins.RICH, Due.UNLIKE, x -> x.copy(0, 0, 1, 0, 1), x -> x.copy(1, 0, 0, 0, 1),
            x -> x.copy(0, 0, 1, 0, 0), x -> x.copy(1, 9, 0, 9, 1), x -> x.copy(0, -1, 1, -1, -1), x -> x.copy(1, 0, 3, 0, 0));
    }

    private static void copyOutside() {
        T.sentence("33 copy: -12 (also with n below 0)");
        Twins.Story two = Twins.then(Twins.RICH, x -> x.sheet(2, INTS, 2));
        Twins.refused(T, "n below 0", two, Due.OUTSIDE, x -> x.copy(1, 0, 2, 0, -1), x -> x.copy(1, 1, 2, 1, -1),
            x -> x.copy(1, 0, 2, 0, Due.LEAST), x -> x.copy(1, 3, 1, 3, -3));
        Twins.refused(T, "i", two, Due.OUTSIDE, x -> x.copy(1, -1, 2, 0, 1), x -> x.copy(1, 3, 2, 0, 1), x -> x.copy(1, 2, 2, 0, 2),
            x -> x.copy(1, -1, 2, 0, 0), x -> x.copy(1, 4, 2, 0, 0), x -> x.copy(1, Due.LEAST, 2, 0, 1),
            x -> x.copy(1, Due.MOST, 2, 0, 1), x -> x.copy(1, Due.MOST, 2, 0, Due.MOST));
        Twins.refused(T, "j", two, Due.OUTSIDE, x -> x.copy(1, 0, 2, -1, 1), x -> x.copy(1, 0, 2, 2, 1), x -> x.copy(1, 0, 2, 1, 2),
            x -> x.copy(1, 0, 2, -1, 0), x -> x.copy(1, 0, 2, 3, 0), x -> x.copy(1, 0, 2, Due.LEAST, 1),
            x -> x.copy(1, 0, 2, Due.MOST, 1), x -> x.copy(1, 0, 2, Due.MOST, Due.MOST));
        Twins.refused(T, "n", two, Due.OUTSIDE, x -> x.copy(1, 0, 2, 0, 3), x -> x.copy(2, 0, 1, 0, 3), x -> x.copy(1, 0, 1, 0, 4),
            x -> x.copy(1, 0, 1, 1, 3), x -> x.copy(1, 1, 1, 0, 3), x -> x.copy(1, 0, 2, 0, Due.MOST), x -> x.copy(3, 0, 3, 0, 1));
    }
}
