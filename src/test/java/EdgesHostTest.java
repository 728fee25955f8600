/** The edges that promises 46 to 50 name. */
public final class EdgesHostTest {
    private static final int BIG = Edges.BIG, SMALL = Edges.SMALL;

    public static void main(String[] args) throws Exception {
        Edges.run(EdgesHostTest.class, 46, 50);
    }

    /** One JOKE that yields 99, minds 1: how far a number is from 99 tells it, if it is less. */
    private static LaughterIsMinted gauge() {
        LaughterIsMinted x = Edges.pair(0, 0, 0);
        Edges.law(x, "99", "0", "1");
        return x;
    }

    private static void holds(LaughterIsMinted x, int s, int sort, int place, long number) {
        int scratch = (s + 1) % 4;
        x.sheet(scratch, sort, 1);
        Check.due("copy", x.copy(s, place, scratch, 0, 1), 1);
        Check.due("number " + place, x.amiss(scratch, 0), Math.abs(number - 99));
    }

    // ---- sheet

    static void promise46SheetTakesSheets0To3() {
        LaughterIsMinted x = new LaughterIsMinted();
        for (int s = 0; s < 4; s++) {
            Check.due("sheet", x.sheet(s, 0, 1), 1);
            Check.due("cell", x.cell(s, 0, 1), 1);
        }
    }

    static void promise46SheetRefusesSheets() {
        Edges.refused(-2, x -> x.sheet(-1, 0, 1), x -> x.sheet(4, 0, 1), x -> x.sheet(SMALL, 0, 1), x -> x.sheet(BIG, 0, 1),
            x -> x.sheet(4, -1, 0));
    }

    static void promise46SheetTakesSortsMinus1To2() {
        LaughterIsMinted x = gauge();
        for (int sort = 0; sort <= 2; sort++) {
            Check.due("sheet", x.sheet(0, sort, 1), 1);
            Check.due("its sort", x.jokesBy(0, sort, 0, 0), 0);
            Check.due("another sort", x.jokesBy(0, (sort + 1) % 3, 0, 0), -13);
            Check.due("another sort", x.jokesBy(0, (sort + 2) % 3, 0, 0), -13);
        }
        Check.due("missing", x.sheet(0, -1, 1), 1);
        Check.due("missing", x.jokesBy(0, 0, 0, 0), -11);
    }

    static void promise46SheetRefusesSorts() {
        Edges.refused(-2, x -> x.sheet(0, -2, 1), x -> x.sheet(0, 3, 1), x -> x.sheet(3, SMALL, 1), x -> x.sheet(3, BIG, 1));
    }

    static void promise46SheetTakesN0To40() {
        LaughterIsMinted x = new LaughterIsMinted();
        for (int sort = 0; sort <= 2; sort++) {
            for (int n : new int[] {0, 1, 39, 40}) {
                Check.due("sheet", x.sheet(3, sort, n), 1);
                Check.due("the last place", x.cell(3, n - 1, 1), n > 0 ? 1 : -12);
                Check.due("no more", x.cell(3, n, 1), -12);
                Check.due("all", x.copy(3, 0, 3, 0, n), n);
                Check.due("no more", x.copy(3, 0, 3, 0, n + 1), -12);
            }
        }
    }

    static void promise46SheetRefusesNAbove40() {
        Edges.refused(-2, x -> x.sheet(0, 0, 41), x -> x.sheet(1, 1, 41), x -> x.sheet(2, 2, 41), x -> x.sheet(3, 0, BIG));
    }

    static void promise46SheetRefusesASizeBelow0() {
        Edges.refused(-14, x -> x.sheet(0, 0, -1), x -> x.sheet(1, 1, -1), x -> x.sheet(2, 2, -1), x -> x.sheet(3, 0, SMALL));
    }

    static void promise46TheSheetAndTheSortAreRefusedAheadOfASizeBelow0() {
        Edges.refused(-2, x -> x.sheet(4, 0, -1), x -> x.sheet(0, 3, -1), x -> x.sheet(-1, 0, SMALL), x -> x.sheet(0, -2, -1));
    }

    static void promise46NDoesNotMatterForAMissingOne() {
        for (int n : new int[] {-1, 0, 40, 41, BIG, SMALL}) {
            LaughterIsMinted x = Edges.busy();
            Check.due("sheet", x.sheet(2, -1, n), 1);
            Check.due("missing", x.cell(2, 0, 0), -11);
            Check.due("missing again", x.sheet(2, -1, n), 1);
        }
    }

    static void promise46AllNumbersAre0() {
        LaughterIsMinted x = gauge();
        for (int sort = 0; sort <= 2; sort++) {
            x.sheet(1, sort, 40);
            for (int i = 0; i < 40; i++) {
                x.cell(1, i, 7);
            }
            x.sheet(1, sort, 40);
            holds(x, 1, sort, 0, 0);
            holds(x, 1, sort, 20, 0);
            holds(x, 1, sort, 39, 0);
        }
    }

    static void promise46AllNumbersAre0BehindASmallerOne() {
        LaughterIsMinted x = gauge();
        x.sheet(1, 2, 40);
        x.cell(1, 39, 7);
        x.sheet(1, 2, 3);
        x.sheet(1, 2, 40);
        holds(x, 1, 2, 39, 0);
        x.cell(1, 39, 7);
        x.sheet(1, -1, 0);
        x.sheet(1, 2, 40);
        holds(x, 1, 2, 39, 0);
    }

    static void promise46SheetChangesNoOther() {
        Check.so("as if it had been made so", Probe.of(() -> {
            LaughterIsMinted x = Edges.busy();
            x.sheet(0, 0, 3);
            return x;
        }).equals(Probe.of(() -> {
            LaughterIsMinted x = Edges.busy();
            for (int i = 0; i < 3; i++) {
                x.cell(0, i, 0);
            }
            return x;
        })));
    }

    // ---- cell

    static void promise47CellRefusesSheets() {
        Edges.refused(-2, x -> x.cell(-1, 0, 1), x -> x.cell(4, 0, 1), x -> x.cell(SMALL, 0, 1), x -> x.cell(BIG, 99, 1));
    }

    static void promise47CellRefusesAMissingOneAheadOfThePlace() {
        Edges.refused(-11, x -> x.cell(3, 0, 1), x -> x.cell(3, -1, 1), x -> x.cell(3, 40, 1));
    }

    static void promise47CellTakesTheFirstAndTheLastPlace() {
        LaughterIsMinted x = gauge();
        for (int sort = 0; sort <= 2; sort++) {
            x.sheet(1, sort, 40);
            Check.due("the first", x.cell(1, 0, 8), 1);
            Check.due("the last", x.cell(1, 39, 9), 1);
            holds(x, 1, sort, 0, 8);
            holds(x, 1, sort, 1, 0);
            holds(x, 1, sort, 38, 0);
            holds(x, 1, sort, 39, 9);
        }
    }

    static void promise47CellRefusesPlacesOutside() {
        Edges.refused(-12, x -> x.cell(0, -1, 1), x -> x.cell(0, 3, 1), x -> x.cell(1, 4, 1), x -> x.cell(2, 40, 1),
            x -> x.cell(2, BIG, 1), x -> x.cell(2, SMALL, 1));
        Edges.stays(() -> {
            LaughterIsMinted x = Edges.busy();
            x.sheet(0, 0, 0);
            return x;
        }, -12, x -> x.cell(0, 0, 1));
    }

    static void promise47OfBytesTheLowest8Bits() {
        int[] put = {127, 128, 255, 256, 257, -128, -129, -256, BIG, SMALL};
        int[] due = {127, -128, -1, 0, 1, -128, 127, 0, -1, 0};
        LaughterIsMinted x = gauge();
        x.sheet(1, 0, 1);
        for (int k = 0; k < put.length; k++) {
            Check.due("cell", x.cell(1, 0, put[k]), 1);
            holds(x, 1, 0, 0, due[k]);
        }
    }

    static void promise47OfShortsTheLowest16Bits() {
        int[] put = {255, 256, 32767, 32768, 65535, 65536, 65537, -32768, -32769, BIG, SMALL};
        int[] due = {255, 256, 32767, -32768, -1, 0, 1, -32768, 32767, -1, 0};
        LaughterIsMinted x = gauge();
        x.sheet(1, 1, 1);
        for (int k = 0; k < put.length; k++) {
            Check.due("cell", x.cell(1, 0, put[k]), 1);
            holds(x, 1, 1, 0, due[k]);
        }
    }

    static void promise47OfIntsAll() {
        LaughterIsMinted x = gauge();
        x.sheet(1, 2, 1);
        for (int v : new int[] {255, 256, 32768, 65536, -1, BIG, SMALL}) {
            Check.due("cell", x.cell(1, 0, v), 1);
            holds(x, 1, 2, 0, v);
        }
    }

    // ---- copy

    private static LaughterIsMinted rows() {
        LaughterIsMinted x = gauge();
        Check.sheet(x, 0, 2, 1, 2, 3, 4, 5);
        Check.sheet(x, 1, 2, 11, 12, 13);
        x.sheet(2, 2, 0);
        return x;
    }

    private static void row(LaughterIsMinted x, int s, int... due) {
        Check.due("as many", x.copy(s, 0, s, 0, due.length), due.length);
        Check.due("no more", x.copy(s, 0, s, 0, due.length + 1), -12);
        for (int i = 0; i < due.length; i++) {
            int scratch = 3;
            x.sheet(scratch, 2, 1);
            x.copy(s, i, scratch, 0, 1);
            Check.due("number " + i, x.amiss(scratch, 0), 99 - due[i]);
        }
    }

    static void promise48CopyRefusesSheets() {
        Edges.refused(-2, x -> x.copy(-1, 0, 0, 0, 1), x -> x.copy(4, 0, 0, 0, 1), x -> x.copy(0, 0, -1, 0, 1),
            x -> x.copy(0, 0, 4, 0, 1), x -> x.copy(SMALL, 0, BIG, 0, 1));
    }

    static void promise48CopyRefusesSheetsAheadOfAMissingOne() {
        Edges.refused(-2, x -> x.copy(3, 0, 4, 0, 1), x -> x.copy(-1, 0, 3, 0, 1));
    }

    static void promise48CopyRefusesAMissingOne() {
        Edges.refused(-11, x -> x.copy(3, 0, 0, 0, 1), x -> x.copy(0, 0, 3, 0, 1), x -> x.copy(3, 0, 3, 0, 0));
    }

    static void promise48CopyRefusesAMissingOneAheadOfPlaces() {
        Edges.refused(-11, x -> x.copy(3, -1, 0, 9, -1), x -> x.copy(0, 99, 3, -1, 1));
    }

    static void promise48CopyRefusesUnlikeSorts() {
        Edges.refused(-13, x -> x.copy(0, 0, 1, 0, 1), x -> x.copy(1, 0, 0, 0, 1), x -> x.copy(0, 0, 2, 0, 1),
            x -> x.copy(2, 0, 1, 0, 1), x -> x.copy(1, 0, 2, 0, 0));
    }

    static void promise48CopyRefusesUnlikeSortsAheadOfPlaces() {
        Edges.refused(-13, x -> x.copy(0, -1, 1, 0, 1), x -> x.copy(0, 0, 1, 99, 1), x -> x.copy(0, 0, 1, 0, -1));
    }

    static void promise48CopyTakesThePlacesToTheEnd() {
        LaughterIsMinted x = rows();
        Check.due("all of the smaller one", x.copy(1, 0, 0, 2, 3), 3);
        row(x, 0, 1, 2, 11, 12, 13);
        LaughterIsMinted y = rows();
        Check.due("the last three", y.copy(0, 2, 1, 0, 3), 3);
        row(y, 1, 3, 4, 5);
        LaughterIsMinted z = rows();
        Check.due("the last one", z.copy(0, 4, 1, 2, 1), 1);
        row(z, 1, 11, 12, 5);
    }

    static void promise48CopyRefusesPlacesOutside() {
        Edges.stays(EdgesHostTest::rows, -12, x -> x.copy(0, 3, 1, 0, 3), x -> x.copy(0, 0, 1, 1, 3),
            x -> x.copy(0, 5, 1, 0, 1), x -> x.copy(0, 0, 1, 3, 1), x -> x.copy(0, 0, 1, 0, 4), x -> x.copy(1, 0, 0, 0, 4),
            x -> x.copy(0, -1, 1, 0, 1), x -> x.copy(0, 0, 1, -1, 1), x -> x.copy(0, 0, 0, 1, 5), x -> x.copy(2, 0, 0, 0, 1),
            x -> x.copy(0, 0, 2, 0, 1), x -> x.copy(0, 4, 0, 0, 2));
    }

    static void promise48CopyRefusesPlacesFarOutside() {
        Edges.stays(EdgesHostTest::rows, -12, x -> x.copy(0, BIG, 1, 0, 1), x -> x.copy(0, 0, 1, BIG, 1),
            x -> x.copy(0, 0, 1, 0, BIG), x -> x.copy(0, BIG, 1, BIG, BIG), x -> x.copy(0, SMALL, 1, 0, 1),
            x -> x.copy(0, 0, 1, SMALL, 1), x -> x.copy(0, 1, 1, 1, BIG), x -> x.copy(0, 3, 1, 0, BIG - 1));
    }

    static void promise48CopyRefusesNBelow0() {
        Edges.stays(EdgesHostTest::rows, -12, x -> x.copy(0, 0, 1, 0, -1), x -> x.copy(0, 2, 1, 2, -2),
            x -> x.copy(0, 0, 0, 0, SMALL));
    }

    static void promise48CopyOfNone() {
        Edges.stays(EdgesHostTest::rows, 0, x -> x.copy(0, 0, 1, 0, 0), x -> x.copy(0, 5, 1, 3, 0), x -> x.copy(2, 0, 0, 5, 0),
            x -> x.copy(0, 5, 2, 0, 0), x -> x.copy(2, 0, 2, 0, 0));
    }

    static void promise48CopyOfNoneOutside() {
        Edges.stays(EdgesHostTest::rows, -12, x -> x.copy(0, 6, 1, 0, 0), x -> x.copy(0, 0, 1, 4, 0),
            x -> x.copy(0, -1, 1, 0, 0), x -> x.copy(0, 0, 1, -1, 0), x -> x.copy(2, 1, 0, 0, 0));
    }

    static void promise48CopyToItsOwnAsTheyWere() {
        LaughterIsMinted x = rows();
        Check.due("on", x.copy(0, 0, 0, 1, 4), 4);
        row(x, 0, 1, 1, 2, 3, 4);
        LaughterIsMinted y = rows();
        Check.due("back", y.copy(0, 1, 0, 0, 4), 4);
        row(y, 0, 2, 3, 4, 5, 5);
        Edges.stays(EdgesHostTest::rows, 5, z -> z.copy(0, 0, 0, 0, 5));
    }

    static void promise48CopyOf40() {
        LaughterIsMinted x = gauge();
        x.sheet(2, 1, 40);
        x.sheet(3, 1, 40);
        x.cell(2, 0, 5);
        x.cell(2, 39, 6);
        Check.due("all", x.copy(2, 0, 3, 0, 40), 40);
        Check.due("one more", x.copy(2, 0, 3, 0, 41), -12);
        holds(x, 3, 1, 0, 5);
        holds(x, 3, 1, 39, 6);
    }

    static void promise48CopyLeavesItsSource() {
        LaughterIsMinted x = rows();
        x.copy(0, 0, 1, 0, 3);
        x.cell(1, 0, 50);
        row(x, 0, 1, 2, 3, 4, 5);
        row(x, 1, 50, 2, 3);
    }

    // ---- jokesBy

    private static LaughterIsMinted by(int sort, int... numbers) {
        LaughterIsMinted x = new LaughterIsMinted();
        x.hearer(0, 1);
        Check.sheet(x, 2, sort, numbers);
        return x;
    }

    static void promise49JokesByRefusesSheets() {
        Edges.refused(-2, x -> x.jokesBy(-1, 0, 0, 1), x -> x.jokesBy(4, 0, 0, 1), x -> x.jokesBy(SMALL, 0, 0, 1),
            x -> x.jokesBy(BIG, 0, 0, 1));
    }

    static void promise49JokesByRefusesSorts() {
        Edges.refused(-2, x -> x.jokesBy(0, -1, 0, 1), x -> x.jokesBy(0, 3, 0, 1), x -> x.jokesBy(3, -1, 0, 1),
            x -> x.jokesBy(0, BIG, 0, 1));
    }

    static void promise49JokesByRefusesN() {
        Edges.refused(-2, x -> x.jokesBy(2, 2, 0, -1), x -> x.jokesBy(2, 2, 0, 6), x -> x.jokesBy(2, 2, 0, BIG),
            x -> x.jokesBy(2, 2, 0, SMALL));
    }

    static void promise49TheNumbersAreRefusedAheadOfAMissingOne() {
        Edges.refused(-2, x -> x.jokesBy(3, 3, 0, 1), x -> x.jokesBy(3, 0, 0, 6), x -> x.jokesBy(3, 0, 99, -1));
    }

    static void promise49JokesByRefusesAMissingOneAheadOfThePlace() {
        Edges.refused(-11, x -> x.jokesBy(3, 0, 0, 1), x -> x.jokesBy(3, 2, 99, 5), x -> x.jokesBy(3, 1, -1, 0));
    }

    static void promise49JokesByRefusesAnotherSortAheadOfThePlace() {
        Edges.refused(-13, x -> x.jokesBy(0, 1, 0, 1), x -> x.jokesBy(1, 2, 99, 1), x -> x.jokesBy(2, 0, -1, 0));
    }

    static void promise49JokesByTakesN0To5() {
        for (int sort = 0; sort < 3; sort++) {
            for (int n = 0; n <= 5; n++) {
                LaughterIsMinted x = by(sort, 0, 9, 1, 8, 2, 7, 3, 6, 5, 0);
                Check.due("jokesBy", x.jokesBy(2, sort, 0, n), n);
                Check.due("jokes", x.count(0), n);
                for (int j = 0; j < n; j++) {
                    Check.due("kind", x.told(j, 0), j < 4 ? j : 5);
                    Check.due("more", x.told(j, 1), j < 4 ? 9 - j : 0);
                }
            }
        }
    }

    static void promise49NoneByAnyPlace() {
        Edges.stays(() -> by(0, 1, 1), 0, x -> x.jokesBy(2, 0, 0, 0), x -> x.jokesBy(2, 0, 2, 0));
    }

    static void promise49FromThePlaceOnToTheEnd() {
        LaughterIsMinted x = by(1, 7, 7, 7, 4, 3);
        Check.due("the last two", x.jokesBy(2, 1, 3, 1), 1);
        Check.due("kind", x.told(0, 0), 4);
        Check.due("more", x.told(0, 1), 3);
    }

    static void promise49APlaceOutside() {
        Edges.stays(() -> by(2, 1, 2, 3), -12, x -> x.jokesBy(2, 2, -1, 1), x -> x.jokesBy(2, 2, 3, 1),
            x -> x.jokesBy(2, 2, BIG, 1), x -> x.jokesBy(2, 2, BIG - 1, 5), x -> x.jokesBy(2, 2, SMALL, 5));
        Edges.stays(() -> by(2), -12, x -> x.jokesBy(2, 2, 0, 1));
    }

    static void promise49AHalfOutside() {
        Edges.stays(() -> by(2, 1, 2, 3), -12, x -> x.jokesBy(2, 2, 2, 1), x -> x.jokesBy(2, 2, -1, 2));
    }

    static void promise49WhatStoodAheadCame() {
        LaughterIsMinted x = by(0, 1, 2, 3, 4, 5);
        Check.due("outside", x.jokesBy(2, 0, 0, 3), -12);
        Check.due("jokes", x.count(0), 2);
        Check.due("kind", x.told(0, 0), 1);
        Check.due("more", x.told(0, 1), 2);
        Check.due("kind", x.told(1, 0), 3);
        Check.due("more", x.told(1, 1), 4);
        Check.due("as they come", x.told(1, 2), 0);
    }

    static void promise49OthersAreLeftOut() {
        LaughterIsMinted x = by(2, 6, 0, 0, 10, -1, 0, 0, -1, 5, 9);
        Check.due("one of five", x.jokesBy(2, 2, 0, 5), 1);
        Check.due("jokes", x.count(0), 1);
        Check.due("kind", x.told(0, 0), 5);
        Check.due("more", x.told(0, 1), 9);
        Edges.stays(() -> by(2, 6, 0, 0, 10), 0, y -> y.jokesBy(2, 2, 0, 2));
    }

    static void promise49TheSixthIsLeftOut() {
        LaughterIsMinted x = by(0, 0, 1, 0, 2, 0, 3);
        for (int k = 0; k < 3; k++) {
            x.joke(0, 0);
        }
        Check.due("two of three", x.jokesBy(2, 0, 0, 3), 2);
        Check.due("jokes", x.count(0), 5);
        Check.due("more", x.told(4, 1), 2);
        Check.due("none", x.jokesBy(2, 0, 0, 3), 0);
        Check.due("jokes", x.count(0), 5);
        Check.due("none, and a place outside", x.jokesBy(2, 0, 0, 4), -12);
    }

    static void promise49NumbersAreOfTheSheetsSort() {
        LaughterIsMinted x = by(0, 256 + 5, 256 + 9, 5 - 256, 512);
        Check.due("bytes", x.jokesBy(2, 0, 0, 2), 2);
        Check.due("kind", x.told(0, 0), 5);
        Check.due("more", x.told(0, 1), 9);
        Edges.stays(() -> by(1, 256 + 5, 1), 0, y -> y.jokesBy(2, 1, 0, 1));
        LaughterIsMinted z = by(1, 65536 + 5, 1);
        Check.due("shorts", z.jokesBy(2, 1, 0, 1), 1);
        Edges.stays(() -> by(2, 65536 + 5, 1), 0, y -> y.jokesBy(2, 2, 0, 1));
        Edges.stays(() -> by(0, 255, 1), 0, y -> y.jokesBy(2, 0, 0, 1));
    }

    // ---- taken

    static void promise50TakenRefusesKinds() {
        Edges.refused(-2, x -> x.taken(0, -1), x -> x.taken(0, 7), x -> x.taken(5, SMALL), x -> x.taken(5, BIG));
    }

    static void promise50TakenRefusesKindsAheadOfThePlace() {
        Edges.refused(-2, x -> x.taken(-1, 7), x -> x.taken(11, -1), x -> x.taken(3, 7));
    }

    static void promise50TakenRefusesPlacesOutside() {
        Edges.refused(-12, x -> x.taken(-1, 0), x -> x.taken(11, 0), x -> x.taken(-1, 6), x -> x.taken(11, 6),
            x -> x.taken(BIG, 0), x -> x.taken(SMALL, 6));
        Edges.stays(Edges::empty, -12, x -> x.taken(-1, 0), x -> x.taken(11, 6));
    }

    static void promise50NothingLiesThere() {
        Edges.refused(-11, x -> x.taken(3, 0), x -> x.taken(4, 0), x -> x.taken(8, 6), x -> x.taken(10, 6));
        Edges.stays(Edges::empty, -11, x -> x.taken(0, 0), x -> x.taken(4, 5), x -> x.taken(5, 6), x -> x.taken(10, 6));
    }

    static void promise50NothingLiesThereAheadOfAnotherKind() {
        Edges.refused(-11, x -> x.taken(3, 6), x -> x.taken(8, 0));
        Edges.stays(Edges::empty, -11, x -> x.taken(0, 6), x -> x.taken(5, 0));
    }

    static void promise50TakenOfAllPlaces() {
        LaughterIsMinted x = Edges.crowd();
        for (int j = 0; j < 5; j++) {
            Check.due("a joke", x.taken(j, 0), j);
            Check.due("of its kind", x.taken(j, j), j);
            Check.due("no hearer", x.taken(j, 6), -13);
        }
        for (int h = 0; h < 6; h++) {
            x.set(h, 1, 9999 - h);
            Check.due("purse", x.taken(5 + h, 6), 9999 - h);
            for (int kind = 0; kind <= 5; kind++) {
                Check.due("no joke", x.taken(5 + h, kind), -13);
            }
        }
    }

    static void promise50AHearerWithoutAPurse() {
        Edges.stays(Edges::crowd, 0, x -> x.taken(5, 6), x -> x.taken(10, 6));
    }

    static void promise50AlsoOfAKindThatIsOne() {
        boolean[][] is = {
            {true, false, false, false, false, false}, {true, true, false, false, false, false},
            {true, false, true, false, false, false}, {true, true, false, true, false, false},
            {true, false, true, false, true, false}, {true, false, false, false, false, true}};
        for (int kind = 0; kind <= 5; kind++) {
            LaughterIsMinted x = new LaughterIsMinted();
            x.joke(0, 0);
            x.joke(kind, 0);
            for (int as = 0; as <= 5; as++) {
                Check.due(kind + " as " + as, x.taken(1, as), is[kind][as] ? 1 : -13);
            }
        }
    }

    static void promise50TakenChangesNothing() {
        Edges.stays(Edges::busy, 2, x -> x.taken(2, 4), x -> x.taken(2, 2), x -> x.taken(2, 0));
        Edges.stays(Edges::busy, -13, x -> x.taken(2, 1), x -> x.taken(0, 6), x -> x.taken(5, 0));
    }
}
