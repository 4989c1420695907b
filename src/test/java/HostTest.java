/** Promises 31 to 33; what a sheet holds is read by tells(). */
public final class HostTest {
    private static final Due T = new Due("host");
    private static final int BYTES = 0, INTS = 1;

    public static void main(String[] args) {
        sheet();
        cell();
        copyRefusals();
        copy();
        T.end();
    }

    /** Keys 0 .. 3 are found in order by query 0 in view 0. */
    private static LiveIndex reader() {
        LiveIndex x = new LiveIndex();
        Due.segment(x, 0, 4);
        Due.ask(x, "a");
        x.open(0);
        return x;
    }

    private static void sheet() {
        LiveIndex x = reader();
        T.all("31 BAD", Due.BAD, x.sheet(-1, 0, 1), x.sheet(4, 0, 1), x.sheet(0, -2, 1), x.sheet(0, 2, 1),
            x.sheet(0, 0, 41), x.sheet(0, 1, 41), x.sheet(Due.LEAST, 0, 1), x.sheet(Due.MOST, 0, 1),
            x.sheet(0, Due.LEAST, 1), x.sheet(0, Due.MOST, 1), x.sheet(0, 0, Due.MOST));
        T.all("31 BAD ahead of -14", Due.BAD, x.sheet(4, 0, -1), x.sheet(0, 2, -1));
        T.all("31 -14", Due.BELOW_ZERO, x.sheet(0, 0, -1), x.sheet(3, 1, Due.LEAST));
        T.due("31 refusals change nothing", x.cell(0, 0, 0), Due.NOTHING);
        T.all("31 made", 1, x.sheet(0, 0, 40), x.sheet(3, 1, 0), x.sheet(1, 1, 2));
        T.all("31 sizes", Due.OUTSIDE, x.cell(0, 40, 0), x.cell(3, 0, 0), x.cell(1, 2, 0));
        T.all("31 last items", 1, x.cell(0, 39, 0), x.cell(1, 1, 5));
        T.due("31 all 0", x.tells(0, 0, 0, 0), 1);
        T.due("31 a new row", x.sheet(1, 1, 2), 1);
        T.due("31 refused", x.sheet(1, 0, 41), Due.BAD);
        x.sheet(2, INTS, 2);
        T.due("31 its sort is as it was", x.copy(1, 0, 2, 0, 2), 2);
        T.all("31 missing, n does not matter", 1, x.sheet(1, -1, -1), x.sheet(0, -1, 41), x.sheet(2, -1, Due.LEAST));
        T.all("31 missing", Due.NOTHING, x.cell(1, 0, 0), x.cell(0, 0, 0), x.cell(2, 0, 0), x.tells(1, 0, 0, 0));
        T.due("31 made anew", x.sheet(0, 0, 4), 1);
        for (int i = 0; i < 4; i++) x.cell(0, i, i);
        T.due("31 filled", x.tells(0, 0, 0, 0), Due.NONE);
        x.sheet(0, 0, 4);
        T.due("31 all 0 again", x.tells(0, 0, 0, 0), 1);
        x.cell(0, 0, 9);
        x.sheet(0, 0, 4);
        T.due("31 the first, too", x.tells(0, 0, 0, 0), 1);
        x.sheet(0, 0, 0);
        T.due("31 a row of none", x.tells(0, 0, 0, 0), 0);
    }

    private static void cell() {
        LiveIndex x = reader();
        T.all("32 BAD", Due.BAD, x.cell(-1, 0, 0), x.cell(4, 0, 0), x.cell(Due.LEAST, 0, 0), x.cell(Due.MOST, 0, 0));
        T.due("32 -11 ahead of -12", x.cell(0, -1, 0), Due.NOTHING);
        x.sheet(0, BYTES, 4);
        x.sheet(1, INTS, 4);
        T.all("32 -12", Due.OUTSIDE, x.cell(0, -1, 0), x.cell(0, 4, 0), x.cell(0, Due.LEAST, 0), x.cell(0, Due.MOST, 0));
        for (int i = 0; i < 4; i++) {
            T.due("32 a byte", x.cell(0, i, 256 * (i - 2) + i), 1);
            T.due("32 an int", x.cell(1, i, i), 1);
        }
        T.due("32 the lowest 8 bits", x.tells(0, 0, 0, 0), Due.NONE);
        T.due("32 ints", x.tells(1, 0, 0, 0), Due.NONE);
        for (int v : new int[] {257, -255, 1 << 16 | 1, Due.LEAST | 1}) {
            x.cell(0, 1, v);
            x.cell(1, 1, v);
            T.due("32 lowest bits of " + v, x.tells(0, 0, 0, 0), Due.NONE);
            T.due("32 all bits of " + v, x.tells(1, 0, 0, 0), 1);
        }
    }

    private static void copyRefusals() {
        LiveIndex x = new LiveIndex();
        x.sheet(0, BYTES, 4);
        x.sheet(1, INTS, 4);
        x.sheet(2, BYTES, 2);
        T.all("33 BAD", Due.BAD, x.copy(-1, 0, 0, 0, 1), x.copy(4, 0, 0, 0, 1), x.copy(0, 0, -1, 0, 1),
            x.copy(0, 0, 4, 0, 1), x.copy(3, 0, 4, 0, -1), x.copy(Due.LEAST, 0, 0, 0, 1), x.copy(0, 0, Due.MOST, 0, 1));
        T.all("33 -11 ahead of -13, -12", Due.NOTHING, x.copy(3, 0, 0, 0, 1), x.copy(0, 0, 3, 0, 1),
            x.copy(3, 0, 3, 0, 1), x.copy(1, 9, 3, 9, -1));
        T.all("33 -13 ahead of -12", Due.UNLIKE, x.copy(0, 0, 1, 0, 1), x.copy(1, 9, 0, 9, -1));
        T.all("33 -12", Due.OUTSIDE, x.copy(0, 0, 2, 0, -1), x.copy(0, -1, 2, 0, 1), x.copy(0, 0, 2, -1, 1),
            x.copy(0, 0, 2, 0, 3), x.copy(0, 3, 2, 0, 2), x.copy(2, 1, 0, 0, 2), x.copy(0, 5, 2, 0, 0),
            x.copy(0, 0, 2, 3, 0), x.copy(0, 1, 2, 0, Due.MOST), x.copy(0, Due.MOST, 2, 0, Due.MOST),
            x.copy(0, 0, 2, Due.MOST, 1), x.copy(0, Due.LEAST, 2, 0, 1), x.copy(0, 0, 2, 0, Due.LEAST),
            x.copy(0, 1, 0, 0, 4));
        T.all("33 none", 0, x.copy(0, 0, 2, 0, 0), x.copy(0, 4, 2, 2, 0));
        T.all("33 all", 4, x.copy(0, 0, 0, 0, 4), x.copy(0, 0, 2, 0, 2) + 2, x.copy(1, 3, 1, 0, 1) + 3);
    }

    private static void copy() {
        LiveIndex x = reader();
        x.sheet(0, INTS, 6);
        for (int i = 0; i < 4; i++) x.cell(0, i + 1, i);
        x.sheet(1, INTS, 4);
        T.due("33 from one to another", x.copy(0, 1, 1, 0, 4), 4);
        T.due("33 they came", x.tells(1, 0, 0, 0), Due.NONE);
        x.cell(0, 1, 9);
        T.due("33 the other is its own", x.tells(1, 0, 0, 0), Due.NONE);
        x.sheet(2, INTS, 4);
        for (int i = 0; i < 4; i++) x.cell(2, i, Math.min(3, i + 1));
        T.due("33 forward over itself", x.copy(2, 0, 2, 1, 3), 3);
        x.cell(2, 0, 0);
        T.due("33 as they were", x.tells(2, 0, 0, 0), Due.NONE);
        for (int i = 0; i < 4; i++) x.cell(2, i, Math.max(0, i - 1));
        T.due("33 backward over itself", x.copy(2, 1, 2, 0, 3), 3);
        x.cell(2, 3, 3);
        T.due("33 as they were", x.tells(2, 0, 0, 0), Due.NONE);
        x.film(3, 0, 0);
        x.sheet(0, BYTES, 4);
        T.due("33 from a film", x.copy(3, 1, 0, 1, 3), 3);
        T.due("33 bytes came", x.tells(0, 0, 0, 0), Due.NONE);
    }
}
