/** Promises 17 to 21: friday, greedy, mine, round, last. */
public final class FridayTest {
    public static void main(String[] args) {
        nobody();
        friday();
        fridayLikeOnes();
        fridayIsNotGreedy();
        greedy();
        mines();
        rounds();
        lasts();
        nothingChanges();
        Check.end("FridayTest");
    }

    private static void nobody() {
        LaughterIsMinted none = new LaughterIsMinted();
        LaughterIsMinted jokes = new LaughterIsMinted();
        jokes.joke(0, 0);
        LaughterIsMinted hearers = new LaughterIsMinted();
        hearers.hearer(0, 1);
        for (LaughterIsMinted x : new LaughterIsMinted[] {none, jokes, hearers}) {
            Check.due("friday together", x.friday(3, -1), 0);
            Check.due("friday telling", x.friday(3, 0), -1);
            Check.due("friday telling", x.friday(3, 2), -1);
            Check.due("greedy together", x.greedy(20, 0), 0);
            Check.due("greedy first", x.greedy(20, 1), -1);
            Check.due("friday bad", x.friday(2, 2), -2);
            Check.due("greedy bad", x.greedy(21, 1), -2);
            Check.due("round bad", x.round(2), -2);
            Check.due("round bad", x.round(-1), -2);
        }
        Check.due("no jokes", none.round(0), -1);
        Check.due("no jokes", hearers.round(1), -1);
        Check.due("told to none", jokes.round(0), 0);
        Check.due("told to none", jokes.round(1), 0);
        Check.due("no hearers", jokes.last(0), -1);
        Check.due("no such joke", jokes.last(1), -5);
        Check.due("no such joke", none.last(0), -5);
        Check.due("no such joke", hearers.last(-1), -5);
        Check.due("no such joke", hearers.mine(0, 0, 0), -5);
        Check.due("no such hearer", jokes.mine(0, 0, 0), -6);
    }

    private static void friday() {
        LaughterIsMinted x = new LaughterIsMinted();
        x.joke(0, 0);
        x.joke(1, 9);
        x.hearer(0, 1);
        x.hearer(2, 1);
        Check.due("one", x.friday(1, -1), 26);
        Check.due("one", x.friday(1, 0), 1);
        Check.due("two", x.friday(2, -1), 26 + 22);
        Check.due("two", x.friday(2, 0), 1);
        Check.due("two", x.friday(2, 1), 11);
        Check.due("three", x.friday(3, -1), 20 + 24 + 22);
        Check.due("three", x.friday(3, 0), 0);
        Check.due("three", x.friday(3, 1), 1);
        Check.due("three", x.friday(3, 2), 11);
        for (int[] b : new int[][] {{0, -1}, {4, -1}, {1, -2}, {1, 1}, {2, 2}, {3, 3}, {-1, -1}}) {
            Check.due("bad", x.friday(b[0], b[1]), -2);
        }
    }

    private static void fridayLikeOnes() {
        LaughterIsMinted x = new LaughterIsMinted();
        x.joke(3, 0);
        x.joke(3, 0);
        x.hearer(0, 1);
        x.hearer(0, 1);
        x.set(1, 3, 2);
        Check.due("together", x.friday(3, -1), 30);
        Check.due("the first", x.friday(3, 0), 11);
        x.set(0, 3, 3);
        x.set(1, 3, 3);
        Check.due("the first of like ones", x.friday(3, 0), 0);
        Check.due("the first of like ones", x.friday(3, 1), 0);
        Check.due("the first of like ones", x.friday(3, 2), 0);
        LaughterIsMinted y = new LaughterIsMinted();
        y.joke(0, 0);
        y.joke(0, 0);
        y.hearer(0, 1);
        y.hearer(0, 1);
        Check.due("together", y.friday(2, -1), 40);
        Check.due("the first row", y.friday(2, 0), 0);
        Check.due("the first row", y.friday(2, 1), 10);
    }

    /** A text that pays the second who laughs: to begin with the least may be best. */
    private static void fridayIsNotGreedy() {
        LaughterIsMinted x = new LaughterIsMinted();
        x.joke(0, 0);
        x.joke(0, 1);
        x.hearer(0, 1);
        x.force(Check.read(x, "yields (more<1)*(10+(0<purse)*60)+more*(10-(0<purse)*9);fades 0;minds 0;"));
        Check.due("one of like ones", x.friday(1, 0), 0);
        Check.due("together", x.friday(2, -1), 10 + 70);
        Check.due("the first", x.friday(2, 0), 10);
        Check.due("the second", x.friday(2, 1), 0);
        Check.due("greedy", x.greedy(2, 0), 10 + 34);
    }

    private static void greedy() {
        LaughterIsMinted x = new LaughterIsMinted();
        x.joke(0, 0);
        x.joke(1, 9);
        x.hearer(0, 1);
        x.hearer(2, 1);
        Check.due("one", x.greedy(1, 0), 26);
        Check.due("two", x.greedy(2, 0), 26 + 22);
        Check.due("three", x.greedy(3, 0), 26 + 22 + 18);
        Check.due("four", x.greedy(4, 0), 26 + 22 + 18 + 18);
        Check.due("the first", x.greedy(4, 1), 1);
        Check.due("n", x.greedy(0, 0), -2);
        Check.due("n", x.greedy(21, 0), -2);
        Check.due("what", x.greedy(1, -1), -2);
        Check.due("what", x.greedy(1, 2), -2);
        LaughterIsMinted y = new LaughterIsMinted();
        y.joke(0, 0);
        y.joke(3, 9);
        y.hearer(2, 1);
        y.hearer(2, 1);
        Check.due("the first of like ones", y.greedy(1, 1), 0);
        Check.due("twenty", y.greedy(20, 0), 26 + 24 + 19 + 17 * 22);
        LaughterIsMinted z = new LaughterIsMinted();
        z.joke(0, 0);
        z.hearer(0, 1);
        z.force(Check.read(z, "yields 0;fades 0;minds 0;"));
        Check.due("of noughts", z.greedy(3, 1), 0);
        Check.due("of noughts", z.greedy(3, 0), 0);
        Check.due("of noughts", z.friday(3, 2), 0);
        Check.due("of noughts", z.round(0), 0);
    }

    private static void mines() {
        LaughterIsMinted x = new LaughterIsMinted();
        x.joke(0, 0);
        x.joke(3, 0);
        x.hearer(0, 1);
        Check.due("at once", x.mine(0, 0, 20), 0);
        Check.due("then", x.mine(0, 0, 19), 1);
        Check.due("(20 - 2) / 2", x.mine(0, 0, 9), 1);
        Check.due("(20 - 4) / 2", x.mine(0, 0, 8), 2);
        Check.due("(20 - 20) / 2", x.mine(0, 0, 0), 10);
        Check.due("at once", x.mine(1, 0, 7), 0);
        Check.due("never", x.mine(1, 0, 6), -1);
        Check.due("any", x.mine(1, 0, 99), 0);
        Check.due("much", x.mine(0, 0, -1), -7);
        Check.due("much", x.mine(0, 0, 100), -7);
        Check.due("hearer", x.mine(0, 1, 100), -6);
        Check.due("joke", x.mine(2, 1, 100), -5);
        LaughterIsMinted y = new LaughterIsMinted();
        y.joke(3, 0);
        y.hearer(0, 1);
        y.force(Check.read(y, "yields 40-38*(1000<purse);fades 0;minds 0;"));
        y.set(0, 3, 1);
        Check.due("by the purse", y.mine(0, 0, 5), 51);
        y.force(Check.read(y, "yields 4-4*(197<purse);fades 0;minds 0;"));
        Check.due("the 100th", y.mine(0, 0, 1), 99);
        y.force(Check.read(y, "yields 4-4*(199<purse);fades 0;minds 0;"));
        Check.due("the 101st", y.mine(0, 0, 1), -1);
    }

    private static void rounds() {
        LaughterIsMinted x = new LaughterIsMinted();
        x.joke(2, 1);
        x.joke(0, 0);
        x.joke(0, 9);
        x.hearer(0, 1);
        x.hearer(1, 1);
        x.hearer(2, 1);
        Check.due("the joke", x.round(0), 0);
        Check.due("that", x.round(1), 22 + (23 - 4 + 2) + (26 - 8 + 2));
        x.set(0, 3, 1);
        Check.due("the first of like ones", x.round(0), 1);
        Check.due("that", x.round(1), 20 + 21 + 22);
        x.set(2, 3, 6);
        Check.due("the first of like ones", x.round(0), 0);
        Check.due("that", x.round(1), 10 + 2 + 21 + 20);
    }

    private static void lasts() {
        LaughterIsMinted x = new LaughterIsMinted();
        x.joke(0, 0);
        x.joke(3, 0);
        x.hearer(0, 1);
        x.hearer(0, 1);
        x.hearer(0, 1);
        Check.due("of like ones", x.last(0), 0);
        x.set(1, 3, 1);
        Check.due("who heard it loses less", x.last(0), 1);
        x.set(2, 3, 1);
        Check.due("of like ones", x.last(0), 1);
        Check.due("a groaner", x.last(1), 0);
        Check.due("no such joke", x.last(2), -5);
        x.set(1, 3, 0);
        x.force(Check.read(x, "yields 50-told*(hearer<2)*9+told*(hearer=2)*30;fades 0;minds 0;"));
        Check.due("who gains most", x.last(0), 2);
        x.force(Check.read(x, "yields 50-told*(10-hearer*4);fades 0;minds 0;"));
        x.set(2, 3, 0);
        Check.due("who loses least", x.last(0), 2);
        LaughterIsMinted y = new LaughterIsMinted();
        y.joke(4, 0);
        y.hearer(1, 1);
        y.hearer(2, 1);
        for (int k = 0; k < 4; k++) {
            y.tell(0, 0);
        }
        y.set(0, 3, 0);
        Check.due("worn 8: then 10", y.last(0), 0);
    }

    private static void nothingChanges() {
        LaughterIsMinted x = new LaughterIsMinted();
        x.joke(2, 0);
        x.joke(1, 3);
        x.hearer(0, 1);
        x.hearer(4, 1);
        x.friday(3, 0);
        x.greedy(20, 0);
        x.mine(0, 0, 0);
        x.round(0);
        x.last(0);
        for (int i = 0; i < 2; i++) {
            Check.due("worn", x.told(i, 2), 0);
            Check.due("purse", x.of(i, 1), 0);
            Check.due("heard", x.of(i, 3), 0);
        }
        x.tell(0, 1);
        Check.due("from what is", x.friday(1, -1), 19);
        Check.due("from what is", x.friday(1, 0), 11);
    }
}
