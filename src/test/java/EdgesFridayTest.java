import java.util.function.Supplier;

/** The edges that promises 17 to 21 name. */
public final class EdgesFridayTest {
    private static final int BIG = Edges.BIG, SMALL = Edges.SMALL;

    public static void main(String[] args) throws Exception {
        Edges.run(EdgesFridayTest.class, 17, 21);
    }

    /** All places taken, by a JOKE of KIND 0 with MORE 0 .. 4 each: a TELLING yields 10 times the HEARER, and MORE. */
    private static LaughterIsMinted full() {
        LaughterIsMinted x = new LaughterIsMinted();
        for (int j = 0; j < 5; j++) {
            x.joke(0, j);
        }
        for (int h = 0; h < 6; h++) {
            x.hearer(h, 1);
        }
        Edges.law(x, "humour*10+more", "0", "0");
        return x;
    }

    // ---- friday

    static void promise17FridayTakesN1To3() {
        LaughterIsMinted x = Edges.pair(0, 0, 0);
        Check.due("one", x.friday(1, -1), 20);
        Check.due("two", x.friday(2, -1), 29);
        Check.due("three", x.friday(3, -1), 37);
    }

    static void promise17FridayRefusesN() {
        Edges.refused(-2, x -> x.friday(0, -1), x -> x.friday(4, -1), x -> x.friday(-1, -1), x -> x.friday(BIG, -1),
            x -> x.friday(SMALL, -1), x -> x.friday(0, 0), x -> x.friday(4, 0));
    }

    static void promise17FridayTakesWhatMinus1ToNLess1() {
        LaughterIsMinted x = Edges.pair(0, 0, 0);
        for (int n = 1; n <= 3; n++) {
            Check.so("together", x.friday(n, -1) > 0);
            for (int what = 0; what < n; what++) {
                Check.due("telling " + what, x.friday(n, what), 0);
            }
        }
    }

    static void promise17FridayRefusesWhat() {
        Edges.refused(-2, x -> x.friday(1, -2), x -> x.friday(1, 1), x -> x.friday(2, 2), x -> x.friday(3, 3),
            x -> x.friday(3, -2), x -> x.friday(3, BIG), x -> x.friday(3, SMALL));
    }

    static void promise17TogetherIs0WithoutJokesOrHearers() {
        for (int n = 1; n <= 3; n++) {
            int many = n;
            Edges.stays(Edges::empty, 0, x -> x.friday(many, -1));
            Edges.stays(Edges::jokesAlone, 0, x -> x.friday(many, -1));
            Edges.stays(Edges::hearersAlone, 0, x -> x.friday(many, -1));
        }
    }

    static void promise17TheTellingIsMinus1WithoutJokesOrHearers() {
        for (int n = 1; n <= 3; n++) {
            int many = n;
            Edges.stays(Edges::empty, -1, x -> x.friday(many, 0), x -> x.friday(many, many - 1));
            Edges.stays(Edges::jokesAlone, -1, x -> x.friday(many, 0), x -> x.friday(many, many - 1));
            Edges.stays(Edges::hearersAlone, -1, x -> x.friday(many, 0), x -> x.friday(many, many - 1));
        }
    }

    static void promise17OfAllPlaces() {
        LaughterIsMinted x = full();
        Check.due("together", x.friday(3, -1), 54 + 53 + 52);
        Check.due("telling 0", x.friday(3, 0), 25);
        Check.due("telling 1", x.friday(3, 1), 35);
        Check.due("telling 2", x.friday(3, 2), 45);
        Check.due("one", x.friday(1, 0), 45);
    }

    static void promise17TheFirstOfLikeOnesByTelling0() {
        LaughterIsMinted x = new LaughterIsMinted();
        x.joke(3, 0);
        x.joke(3, 0);
        x.hearer(0, 1);
        x.hearer(0, 1);
        x.set(0, 3, 2);
        Check.due("one", x.friday(1, 0), 10);
        x.set(0, 3, 0);
        Check.due("one of all alike", x.friday(1, 0), 0);
        x.set(1, 3, 1);
        x.set(0, 3, 2);
        Check.due("two", x.friday(2, -1), 20);
        Check.due("telling 0", x.friday(2, 0), 1);
        Check.due("telling 1", x.friday(2, 1), 1);
    }

    static void promise17TheFirstOfLikeOnesByTelling1() {
        LaughterIsMinted x = new LaughterIsMinted();
        x.joke(0, 0);
        x.joke(0, 0);
        x.joke(0, 0);
        x.hearer(0, 1);
        Check.due("three", x.friday(3, -1), 60);
        Check.due("telling 0", x.friday(3, 0), 0);
        Check.due("telling 1", x.friday(3, 1), 10);
        Check.due("telling 2", x.friday(3, 2), 20);
    }

    static void promise17RowsThatYieldNothingAreAlike() {
        LaughterIsMinted x = full();
        Edges.law(x, "0", "0", "0");
        Check.due("together", x.friday(3, -1), 0);
        for (int what = 0; what < 3; what++) {
            Check.due("telling", x.friday(3, what), 0);
        }
    }

    static void promise17OneBehindTheOther() {
        LaughterIsMinted x = new LaughterIsMinted();
        x.joke(4, 0);
        x.hearer(0, 1);
        for (int k = 0; k < 3; k++) {
            x.tell(0, 0);
        }
        Check.due("worn 6, 8, 10", x.friday(3, -1), (20 - 12) / 2 + (20 - 16) / 2 + (20 - 2) / 2 + 10);
        LaughterIsMinted y = Edges.pairBy(3, 0, "40-40*(9998<purse)");
        y.set(0, 1, 9969);
        Check.due("the purse, too", y.friday(3, -1), 17 + 20 + 0);
        y.set(0, 1, 9961);
        Check.due("9998 at last", y.friday(3, -1), 17 + 20 + 20);
    }

    private static int truly(LaughterIsMinted x, int[] row) {
        int sum = 0;
        for (int telling : row) {
            sum += x.tell(telling / 10, telling % 10);
        }
        return sum;
    }

    /** All rows of n TELLINGS, by TELLING 0, then 1, .., each told truly by an object of its own. */
    private static void allRows(Supplier<LaughterIsMinted> made, int n) {
        LaughterIsMinted x = made.get();
        int hearers = x.count(1);
        int tellings = x.count(0) * hearers;
        int best = -1;
        int[] first = null;
        for (int number = 0; number < Math.pow(tellings, n); number++) {
            int[] row = new int[n];
            for (int k = n - 1, rest = number; k >= 0; k--, rest /= tellings) {
                row[k] = 10 * (rest % tellings / hearers) + rest % tellings % hearers;
            }
            int sum = truly(made.get(), row);
            if (sum > best) {
                best = sum;
                first = row;
            }
        }
        Check.due("together", x.friday(n, -1), best);
        for (int what = 0; what < n; what++) {
            Check.due("telling " + what, x.friday(n, what), first[what]);
        }
    }

    private static LaughterIsMinted some(int kinds, int jokes, int hearers, String yields) {
        LaughterIsMinted x = new LaughterIsMinted();
        for (int j = 0, rest = kinds; j < jokes; j++, rest /= 6) {
            x.joke(rest % 6, (7 * j + 3) % 10);
        }
        for (int h = 0; h < hearers; h++) {
            x.hearer((5 * h + 2) % 10, 1);
        }
        if (!yields.isEmpty()) {
            Edges.law(x, yields, "0", "0");
        }
        return x;
    }

    static void promise17OfAllRowsTriedTruly() {
        String[] laws = {"", "20+purse*(1-2*(hearer=1))", "30-told*5*(hearer<1)+told*6*(hearer=1)", "(9<purse)*40+8+hearer",
            "50-purse-hearer"};
        for (int kinds : new int[] {0, 7, 14, 21, 28, 35, 123, 200}) {
            for (String law : laws) {
                allRows(() -> some(kinds, 2, 2, law), 3);
                allRows(() -> some(kinds, 3, 2, law), 2);
                allRows(() -> some(kinds, 2, 3, law), 2);
                allRows(() -> some(kinds, 1, 3, law), 3);
                allRows(() -> some(kinds, 3, 1, law), 3);
            }
        }
    }

    static void promise17FridayChangesNothing() {
        Edges.stays(Edges::busy, 59, x -> x.friday(1, -1));
        Edges.stays(Edges::busy, 22, x -> x.friday(1, 0));
        Check.so("three", Edges.busy().friday(3, -1) > 0);
        Edges.stays(EdgesFridayTest::full, 159, x -> x.friday(3, -1));
    }

    // ---- greedy

    static void promise18GreedyTakesN1To20() {
        LaughterIsMinted x = Edges.pair(3, 0, 0);
        Check.due("one", x.greedy(1, 0), 7);
        Check.due("nineteen", x.greedy(19, 0), 7 + 180);
        Check.due("twenty", x.greedy(20, 0), 7 + 190);
        Check.due("the first", x.greedy(20, 1), 0);
    }

    static void promise18GreedyRefusesN() {
        Edges.refused(-2, x -> x.greedy(0, 0), x -> x.greedy(21, 0), x -> x.greedy(-1, 1), x -> x.greedy(BIG, 0),
            x -> x.greedy(SMALL, 0));
    }

    static void promise18GreedyRefusesWhat() {
        Edges.refused(-2, x -> x.greedy(1, -1), x -> x.greedy(1, 2), x -> x.greedy(20, BIG), x -> x.greedy(20, SMALL));
    }

    static void promise18TogetherIs0AndTheFirstMinus1WithoutJokesOrHearers() {
        for (int n = 1; n <= 20; n += 19) {
            int many = n;
            Edges.stays(Edges::empty, 0, x -> x.greedy(many, 0));
            Edges.stays(Edges::jokesAlone, 0, x -> x.greedy(many, 0));
            Edges.stays(Edges::hearersAlone, 0, x -> x.greedy(many, 0));
            Edges.stays(Edges::empty, -1, x -> x.greedy(many, 1));
            Edges.stays(Edges::jokesAlone, -1, x -> x.greedy(many, 1));
            Edges.stays(Edges::hearersAlone, -1, x -> x.greedy(many, 1));
        }
    }

    static void promise18TheFirstOfLikeOnesByJokesThenHearers() {
        LaughterIsMinted x = new LaughterIsMinted();
        x.joke(0, 0);
        x.joke(0, 0);
        x.hearer(0, 1);
        x.hearer(1, 1);
        x.hearer(1, 1);
        Check.due("the first hearer of the first joke", x.greedy(1, 1), 1);
        x.set(1, 3, 1);
        Check.due("then the second hearer", x.greedy(1, 1), 2);
        x.set(2, 3, 1);
        Check.due("then the second joke", x.greedy(1, 1), 11);
        Edges.law(x, "0", "0", "0");
        Check.due("of noughts", x.greedy(20, 1), 0);
        Check.due("of noughts", x.greedy(20, 0), 0);
    }

    static void promise18GreedyOfAllPlaces() {
        LaughterIsMinted x = full();
        Check.due("the first", x.greedy(20, 1), 45);
        Check.due("three", x.greedy(3, 0), 54 + 53 + 52);
        Check.due("six", x.greedy(6, 0), 54 + 53 + 52 + 51 + 50 + 42);
    }

    static void promise18EachThatWhichYieldsMostThen() {
        for (int kinds : new int[] {0, 7, 14, 21, 28, 35, 123, 200}) {
            LaughterIsMinted asked = some(kinds, 3, 3, "");
            LaughterIsMinted told = some(kinds, 3, 3, "");
            int sum = 0;
            for (int n = 1; n <= 20; n++) {
                int best = 0;
                for (int t = 0; t < 9; t++) {
                    best = told.yields(t / 3, t % 3) > told.yields(best / 3, best % 3) ? t : best;
                }
                if (n == 1) {
                    Check.due("the first", asked.greedy(20, 1), 10 * (best / 3) + best % 3);
                }
                sum += told.tell(best / 3, best % 3);
                Check.due("together " + n, asked.greedy(n, 0), sum);
            }
        }
    }

    static void promise18GreedyChangesNothing() {
        Edges.stays(Edges::busy, 59, x -> x.greedy(1, 0));
        Edges.stays(Edges::busy, 22, x -> x.greedy(20, 1));
        Edges.stays(EdgesFridayTest::full, 159, x -> x.greedy(3, 0));
    }

    // ---- mine

    static void promise19MineTakesMuch0To99() {
        LaughterIsMinted x = Edges.pair(0, 0, 0);
        Check.due("nothing", x.mine(0, 0, 0), 10);
        Check.due("1", x.mine(0, 0, 1), 9);
        Check.due("98", x.mine(0, 0, 98), 0);
        Check.due("99", x.mine(0, 0, 99), 0);
    }

    static void promise19MineRefusesMuch() {
        Edges.refused(-7, x -> x.mine(0, 0, -1), x -> x.mine(0, 0, 100), x -> x.mine(0, 0, BIG), x -> x.mine(0, 0, SMALL));
    }

    static void promise19MuchOrLess() {
        LaughterIsMinted x = Edges.pair(0, 0, 0);
        Check.due("20", x.mine(0, 0, 20), 0);
        Check.due("19", x.mine(0, 0, 19), 1);
        Check.due("9", x.mine(0, 0, 9), 1);
        Check.due("8", x.mine(0, 0, 8), 2);
    }

    static void promise19TheLastOfTheFirst100() {
        LaughterIsMinted x = Edges.pairBy(3, 1, "4-4*(295<purse)");
        Check.due("1, then 99 times 3: 99 tellings make 295", x.mine(0, 0, 1), 0);
        x.set(0, 3, 1);
        Check.due("98 tellings make 294, 99 make 297", x.mine(0, 0, 1), 99);
        Edges.law(x, "4-4*(297<purse)", "0", "0");
        Check.due("100 tellings make 300: none of the first 100", x.mine(0, 0, 1), -1);
    }

    static void promise19NoneOfTheFirst100() {
        LaughterIsMinted x = Edges.pair(3, 0, 0);
        Check.due("7 at first", x.mine(0, 0, 7), 0);
        Check.due("never", x.mine(0, 0, 6), -1);
        Check.due("never", x.mine(0, 0, 0), -1);
    }

    static void promise19MineRefusesJokesAndHearersInThatOrder() {
        Edges.refused(-5, x -> x.mine(3, 0, 0), x -> x.mine(-1, 0, 0), x -> x.mine(3, 3, 100), x -> x.mine(-1, -1, -1));
        Edges.refused(-6, x -> x.mine(0, 3, 0), x -> x.mine(0, -1, 0), x -> x.mine(0, 3, 100), x -> x.mine(2, SMALL, -1));
        Edges.stays(Edges::empty, -5, x -> x.mine(0, 0, 0));
        Edges.stays(Edges::jokesAlone, -6, x -> x.mine(0, 0, 0));
        Edges.stays(Edges::hearersAlone, -5, x -> x.mine(0, 0, 0));
    }

    static void promise19MineChangesNothing() {
        Edges.stays(Edges::busy, 0, x -> x.mine(0, 0, 99));
        Edges.stays(() -> Edges.pair(3, 0, 0), -1, x -> x.mine(0, 0, 0));
    }

    // ---- round

    static void promise20RoundRefusesWhat() {
        Edges.refused(-2, x -> x.round(-1), x -> x.round(2), x -> x.round(BIG), x -> x.round(SMALL));
    }

    static void promise20ThereAreNoJokes() {
        Edges.stays(Edges::empty, -1, x -> x.round(0), x -> x.round(1));
        Edges.stays(Edges::hearersAlone, -1, x -> x.round(0), x -> x.round(1));
    }

    static void promise20ToldToNobodyAJokeYields0() {
        Edges.stays(Edges::jokesAlone, 0, x -> x.round(0), x -> x.round(1));
    }

    static void promise20TheFirstOfLikeOnes() {
        LaughterIsMinted x = new LaughterIsMinted();
        x.joke(1, 9);
        x.joke(0, 0);
        x.joke(0, 5);
        x.hearer(0, 1);
        Check.due("the second", x.round(0), 1);
        Check.due("that", x.round(1), 20);
        Edges.law(x, "0", "0", "0");
        Check.due("by more", x.round(0), 0);
        Check.due("that", x.round(1), 9);
    }

    static void promise20NothingOfAllIsTheFirstJoke() {
        LaughterIsMinted x = full();
        Edges.law(x, "0", "0", "0");
        Check.due("the first", x.round(0), 0);
        Check.due("that", x.round(1), 0);
    }

    static void promise20RoundOfAllPlaces() {
        LaughterIsMinted x = full();
        Check.due("the last", x.round(0), 4);
        Check.due("each worn by one more", x.round(1), 4 + 12 + 20 + 28 + 36 + 44);
    }

    static void promise20RoundChangesNothing() {
        Edges.stays(EdgesFridayTest::full, 4, x -> x.round(0));
        Edges.stays(EdgesFridayTest::full, 144, x -> x.round(1));
        Edges.stays(Edges::busy, 2, x -> x.round(0));
    }

    // ---- last

    static void promise21LastRefusesJokes() {
        Edges.refused(-5, x -> x.last(-1), x -> x.last(3), x -> x.last(BIG), x -> x.last(SMALL));
        Edges.stays(Edges::crowd, -5, x -> x.last(5));
    }

    static void promise21TheJokeIsRefusedAheadOfNoHearers() {
        Edges.stays(Edges::empty, -5, x -> x.last(0));
        Edges.stays(Edges::hearersAlone, -5, x -> x.last(0));
        Edges.stays(Edges::jokesAlone, -5, x -> x.last(1));
    }

    static void promise21ThereAreNoHearers() {
        Edges.stays(Edges::jokesAlone, -1, x -> x.last(0));
    }

    static void promise21OneAloneLosesNothing() {
        Edges.stays(() -> Edges.pair(0, 0, 0), 0, x -> x.last(0));
    }

    static void promise21TheFirstOfLikeOnes() {
        Edges.stays(Edges::crowd, 0, x -> x.last(0), x -> x.last(3));
        LaughterIsMinted x = Edges.crowd();
        x.set(3, 3, 1);
        x.set(5, 3, 1);
        Check.due("who has heard it loses half", x.last(0), 3);
    }

    static void promise21TheLastHearerOfAllPlaces() {
        LaughterIsMinted x = Edges.crowd();
        x.set(5, 3, 1);
        Check.due("who has heard it", x.last(0), 5);
    }

    static void promise21WhoGainsLosesLeast() {
        LaughterIsMinted x = Edges.crowd();
        Edges.law(x, "50-told*(hearer<4)+told*2*(hearer=4)+told*3*(hearer=5)", "0", "0");
        Check.due("five tellings more", x.last(0), 5);
    }

    static void promise21AllOthersAreToldAheadOfOne() {
        LaughterIsMinted x = Edges.crowd();
        for (int h = 0; h < 6; h++) {
            x.set(h, 3, 31);
        }
        Edges.law(x, "40+9*(told=5)*(hearer=4)-9*(told=4)*(hearer=2)-9*(told=6)*(hearer=0)", "0", "0");
        Check.due("worn 5 behind five others", x.last(0), 4);
    }

    static void promise21LastChangesNothing() {
        Edges.stays(Edges::crowd, 0, x -> x.last(4));
        Edges.stays(Edges::busy, 0, x -> x.last(1));
    }
}
