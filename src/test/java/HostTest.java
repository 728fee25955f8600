/** Promises 46 to 50: sheet, cell, copy, jokesBy, taken. */
public final class HostTest {
    private static final int BIG = Integer.MAX_VALUE, SMALL = Integer.MIN_VALUE;

    public static void main(String[] args) {
        sheets();
        cells();
        copies();
        refusedCopies();
        jokesBySheet();
        jokesLeftOut();
        refusedJokesBy();
        taken();
        Check.end("HostTest");
    }

    private static void sheets() {
        LaughterIsMinted x = new LaughterIsMinted();
        x.hearer(0, 1);
        for (int s = 0; s < 4; s++) {
            Check.due("missing at first", x.cell(s, 0, 0), -11);
        }
        for (int sort = 0; sort < 3; sort++) {
            Check.due("sheet", x.sheet(3, sort, 40), 1);
            Check.due("the last place", x.cell(3, 39, 0), 1);
            Check.due("outside", x.cell(3, 40, 0), -12);
        }
        Check.due("none", x.sheet(3, 0, 0), 1);
        Check.due("outside", x.cell(3, 0, 0), -12);
        Check.due("missing again", x.sheet(3, -1, 41), 1);
        Check.due("missing", x.cell(3, 0, 0), -11);
        Check.due("n does not matter", x.sheet(3, -1, SMALL), 1);
        for (int s : new int[] {-1, 4, SMALL}) {
            Check.due("SHEET", x.sheet(s, 0, 0), -2);
            Check.due("SHEET", x.sheet(s, -1, 0), -2);
        }
        Check.due("sort", x.sheet(0, -2, 0), -2);
        Check.due("sort", x.sheet(0, 3, -1), -2);
        Check.due("n", x.sheet(0, 1, 41), -2);
        Check.due("n", x.sheet(0, 1, BIG), -2);
        Check.due("below 0", x.sheet(0, 1, -1), -14);
        Check.due("below 0", x.sheet(0, 1, SMALL), -14);
        Check.due("as it was", x.cell(0, 0, 0), -11);
        x.joke(0, 0);
        Check.sheet(x, 0, 2, 20);
        Check.due("as told", x.whose(0), 1);
        Check.due("refused", x.sheet(0, 0, 41), -2);
        Check.due("refused", x.sheet(0, 0, -1), -14);
        Check.due("as it was", x.whose(0), 1);
        Check.due("anew", x.sheet(0, 2, 1), 1);
        Check.due("0 again", x.whose(0), 0);
        x.force(Check.read(x, "yields 0;fades 0;minds 0;"));
        Check.due("all 0", x.whose(0), 1);
    }

    /** What a number is, by what it is apart from 0: minds 1 of each. */
    private static LaughterIsMinted gauge() {
        LaughterIsMinted x = new LaughterIsMinted();
        x.joke(0, 0);
        x.hearer(0, 1);
        x.force(Check.read(x, "yields 99;fades 0;minds 1;"));
        return x;
    }

    private static void cells() {
        LaughterIsMinted x = gauge();
        int[] put = {0, 127, 128, 255, 256, 32767, 32768, 65535, 65536, -1, -129, BIG, SMALL};
        for (int v : put) {
            long[] is = {(byte) v, (short) v, v};
            for (int sort = 0; sort < 3; sort++) {
                Check.sheet(x, 1, sort, v);
                Check.due("cell " + sort + " " + v, x.amiss(1, 0), Math.abs(is[sort] - 99));
            }
        }
        Check.due("SHEET", x.cell(4, 0, 0), -2);
        Check.due("SHEET", x.cell(-1, 99, 0), -2);
        Check.due("missing", x.cell(0, 99, 0), -11);
        Check.due("outside", x.cell(1, 1, 0), -12);
        Check.due("outside", x.cell(1, -1, 0), -12);
        Check.due("outside", x.cell(1, SMALL, 0), -12);
    }

    private static LaughterIsMinted five() {
        LaughterIsMinted x = new LaughterIsMinted();
        for (int j = 0; j < 5; j++) {
            x.joke(0, j);
        }
        x.hearer(0, 1);
        x.force(Check.read(x, "yields more+1;fades 0;minds 0;"));
        return x;
    }

    private static void holds(LaughterIsMinted x, int s, int... due) {
        Check.due("as many", x.cell(s, due.length - 1, due[due.length - 1]), 1);
        Check.due("no more", x.cell(s, due.length, 0), -12);
        int first = x.judge(s, 0);
        int want = -1;
        for (int i = due.length - 1; i >= 0; i--) {
            if (due[i] != i + 1) {
                want = i;
            }
        }
        Check.due("first otherwise", first, want);
    }

    private static void copies() {
        LaughterIsMinted x = five();
        Check.sheet(x, 0, 1, 1, 2, 3, 4, 5);
        Check.due("sheet", x.sheet(1, 1, 5), 1);
        Check.due("three", x.copy(0, 0, 1, 0, 3), 3);
        holds(x, 1, 1, 2, 3, 0, 0);
        Check.due("two", x.copy(0, 3, 1, 3, 2), 2);
        holds(x, 1, 1, 2, 3, 4, 5);
        Check.due("from a place on", x.copy(0, 1, 1, 0, 4), 4);
        holds(x, 1, 2, 3, 4, 5, 5);
        Check.sheet(x, 0, 1, 9, 1, 2, 3, 4);
        Check.due("its own, back", x.copy(0, 1, 0, 0, 4), 4);
        Check.due("cell", x.cell(0, 4, 5), 1);
        holds(x, 0, 1, 2, 3, 4, 5);
        Check.sheet(x, 0, 1, 2, 3, 4, 5, 9);
        Check.due("its own, on", x.copy(0, 0, 0, 1, 4), 4);
        Check.due("cell", x.cell(0, 0, 1), 1);
        holds(x, 0, 1, 2, 3, 4, 5);
        Check.due("none at the end", x.copy(0, 5, 1, 5, 0), 0);
        Check.due("all", x.copy(0, 0, 1, 0, 5), 5);
        holds(x, 1, 1, 2, 3, 4, 5);
        Check.due("sheet", x.sheet(2, 1, 0), 1);
        Check.due("none of none", x.copy(2, 0, 0, 0, 0), 0);
    }

    private static void refusedCopies() {
        LaughterIsMinted x = five();
        Check.sheet(x, 0, 1, 1, 2, 3, 4, 5);
        Check.sheet(x, 1, 1, 7, 7, 7);
        Check.sheet(x, 2, 2, 7, 7, 7);
        int[][] bad = {{4, 0, 0, 0, 0, -2}, {0, 0, 4, 0, 0, -2}, {-1, 0, 0, 0, 0, -2}, {3, 0, -1, 0, 0, -2},
            {3, 0, 0, 0, 9, -11}, {0, 0, 3, 0, 9, -11}, {3, 0, 2, 0, 9, -11}, {0, 0, 2, 0, 9, -13}, {2, -1, 0, 0, 1, -13},
            {0, 0, 1, 0, 4, -12}, {0, 3, 1, 0, 3, -12}, {0, -1, 1, 0, 1, -12}, {0, 0, 1, -1, 1, -12}, {0, 0, 1, 0, -1, -12},
            {0, 6, 1, 0, 0, -12}, {0, 0, 1, 4, 0, -12}, {0, BIG, 1, 0, BIG, -12}, {0, 1, 1, 0, BIG, -12},
            {0, 0, 1, BIG, 1, -12}, {0, 0, 1, 0, SMALL, -12}, {0, SMALL, 1, 0, 1, -12}};
        for (int[] b : bad) {
            Check.due("copy", x.copy(b[0], b[1], b[2], b[3], b[4]), b[5]);
        }
        holds(x, 0, 1, 2, 3, 4, 5);
    }

    private static void jokesBySheet() {
        for (int sort = 0; sort < 3; sort++) {
            LaughterIsMinted x = new LaughterIsMinted();
            Check.sheet(x, 2, sort, 9, 5, 8, 4, 7, 0, 0);
            Check.due("none", x.jokesBy(2, sort, 1, 0), 0);
            Check.due("two", x.jokesBy(2, sort, 1, 2), 2);
            Check.due("kind", x.told(0, 0), 5);
            Check.due("more", x.told(0, 1), 8);
            Check.due("kind", x.told(1, 0), 4);
            Check.due("more", x.told(1, 1), 7);
            Check.due("to the end", x.jokesBy(2, sort, 1, 3), 3);
            Check.due("count", x.count(0), 5);
        }
    }

    private static void jokesLeftOut() {
        LaughterIsMinted x = new LaughterIsMinted();
        Check.sheet(x, 0, 2, 6, 0, 0, 10, -1, 0, 1, -1, 3, 3, 2);
        Check.due("others are left out", x.jokesBy(0, 2, 0, 5), 1);
        Check.due("kind", x.told(0, 0), 3);
        Check.due("a place outside", x.jokesBy(0, 2, 8, 2), -12);
        Check.due("what stood ahead came", x.count(0), 2);
        Check.due("kind", x.told(1, 0), 3);
        Check.due("half outside", x.jokesBy(0, 2, 10, 1), -12);
        Check.due("none came", x.count(0), 2);
        for (int k = 0; k < 3; k++) {
            Check.due("one", x.jokesBy(0, 2, 8, 1), 1);
        }
        Check.due("full", x.jokesBy(0, 2, 8, 1), 0);
        Check.due("full, and outside", x.jokesBy(0, 2, 8, 2), -12);
        Check.due("count", x.count(0), 5);
        LaughterIsMinted y = new LaughterIsMinted();
        Check.sheet(y, 0, 0, 256, 256 + 9, 6, 6, 1, 1);
        Check.due("bytes", y.jokesBy(0, 0, 0, 3), 2);
        Check.due("more", y.told(0, 1), 9);
        Check.due("kind", y.told(1, 0), 1);
    }

    private static void refusedJokesBy() {
        LaughterIsMinted x = new LaughterIsMinted();
        Check.sheet(x, 0, 1, 1, 1);
        int[][] bad = {{-1, 1, 0, 1, -2}, {4, 1, 0, 1, -2}, {0, -1, 0, 1, -2}, {0, 3, 0, 1, -2}, {0, 1, 0, -1, -2},
            {0, 1, 0, 6, -2}, {1, 1, 9, 1, -11}, {1, 1, 0, 6, -2}, {0, 0, 9, 1, -13}, {0, 2, 0, 1, -13}, {0, 1, -1, 1, -12},
            {0, 1, 1, 1, -12}, {0, 1, 2, 1, -12}, {0, 1, BIG, 1, -12}, {0, 1, BIG - 1, 5, -12}, {0, 1, SMALL, 5, -12}};
        for (int[] b : bad) {
            Check.due("jokesBy", x.jokesBy(b[0], b[1], b[2], b[3]), b[4]);
        }
        Check.due("none came", x.count(0), 0);
        Check.due("none asked", x.jokesBy(0, 1, BIG, 0), 0);
    }

    private static void taken() {
        LaughterIsMinted x = new LaughterIsMinted();
        boolean[][] is = {
            {true, false, false, false, false, false}, {true, true, false, false, false, false},
            {true, false, true, false, false, false}, {true, true, false, true, false, false},
            {true, false, true, false, true, false}, {true, false, false, false, false, true}};
        for (int first = 0; first < 2; first++) {
            LaughterIsMinted y = new LaughterIsMinted();
            for (int j = 0; j < 5; j++) {
                y.joke(j + first, 0);
            }
            for (int j = 0; j < 5; j++) {
                for (int kind = 0; kind < 6; kind++) {
                    Check.due("taken", y.taken(j, kind), is[j + first][kind] ? j : -13);
                }
                Check.due("no hearer", y.taken(j, 6), -13);
            }
        }
        for (int h = 0; h < 6; h++) {
            Check.due("nothing there", x.taken(5 + h, 6), -11);
            x.hearer(0, 1);
            x.set(h, 1, 100 + h);
            Check.due("purse", x.taken(5 + h, 6), 100 + h);
            for (int kind = 0; kind < 6; kind++) {
                Check.due("no joke", x.taken(5 + h, kind), -13);
            }
        }
        Check.due("nothing there", x.taken(0, 0), -11);
        Check.due("nothing there", x.taken(4, 6), -11);
        Check.due("outside", x.taken(-1, 0), -12);
        Check.due("outside", x.taken(11, 6), -12);
        Check.due("outside", x.taken(SMALL, 6), -12);
        Check.due("kind", x.taken(-1, 7), -2);
        Check.due("kind", x.taken(5, -1), -2);
    }
}
