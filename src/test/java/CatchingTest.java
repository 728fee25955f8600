/** Promises 22 to 25: caught, panic, seeds, stop. */
public final class CatchingTest {
    public static void main(String[] args) {
        nobody();
        chain();
        manyFriends();
        loners();
        seedsOfLikeOnes();
        stopping();
        refused();
        Check.end("CatchingTest");
    }

    private static LaughterIsMinted town(int[] friends, int[] catches) {
        LaughterIsMinted x = new LaughterIsMinted();
        for (int h = 0; h < friends.length; h++) {
            x.hearer(0, catches[h]);
        }
        for (int h = 0; h < friends.length; h++) {
            Check.due("friends", x.set(h, 2, friends[h]), 0);
        }
        return x;
    }

    private static void nobody() {
        LaughterIsMinted x = new LaughterIsMinted();
        Check.due("caught", x.caught(0, 9), 0);
        Check.due("panic", x.panic(0, 0), 0);
        Check.due("panic", x.panic(0, 1), 0);
        Check.due("seeds", x.seeds(0), 0);
        Check.due("seeds", x.seeds(1), 0);
        Check.due("stop", x.stop(0, 0), 0);
        Check.due("none such", x.caught(1, 0), -2);
    }

    /** Each looks at the one ahead of it; the first at the last. */
    private static void chain() {
        LaughterIsMinted x = town(new int[] {32, 1, 2, 4, 8, 16}, new int[] {2, 1, 1, 1, 1, 1});
        for (int k = 0; k <= 9; k++) {
            Check.due("minute " + k, x.caught(1, k), (1 << Math.min(6, k + 1)) - 1);
        }
        Check.due("all", x.panic(1, 0), 63);
        Check.due("five minutes", x.panic(1, 1), 5);
        Check.due("one catches from two", x.panic(2, 0), 62);
        Check.due("four minutes", x.panic(2, 1), 4);
        Check.due("at once", x.panic(32, 1), 0);
        Check.due("alone", x.panic(32, 0), 32);
        Check.due("two at once", x.caught(1 + 8, 1), 1 + 2 + 8 + 16);
        Check.due("who must begin", x.seeds(0), 1);
        Check.due("one", x.seeds(1), 1);
    }

    private static void manyFriends() {
        LaughterIsMinted x = town(new int[] {14, 13, 11, 7}, new int[] {1, 2, 3, 4});
        Check.due("one", x.caught(8, 1), 9);
        Check.due("then", x.caught(8, 2), 11);
        Check.due("then", x.caught(8, 3), 15);
        Check.due("none is enough", x.panic(1, 0), 1);
        Check.due("two", x.panic(3, 0), 3);
        Check.due("three", x.panic(7, 0), 7);
        Check.due("minutes", x.panic(8, 1), 3);
        Check.due("who catches from four", x.seeds(0), 8);
    }

    private static void loners() {
        LaughterIsMinted x = town(new int[] {0, 0, 0, 0, 0, 0}, new int[] {1, 1, 1, 1, 1, 1});
        Check.due("all must begin", x.seeds(0), 63);
        Check.due("six", x.seeds(1), 6);
        Check.due("nobody catches", x.caught(5, 9), 5);
        LaughterIsMinted y = town(new int[] {2, 1, 8, 4}, new int[] {9, 9, 9, 9});
        Check.due("all must begin", y.seeds(1), 4);
    }

    private static void seedsOfLikeOnes() {
        LaughterIsMinted x = town(new int[] {2, 1, 8, 4}, new int[] {1, 1, 1, 1});
        Check.due("the least of like ones", x.seeds(0), 5);
        Check.due("two", x.seeds(1), 2);
        LaughterIsMinted y = town(new int[] {4, 4, 0, 4}, new int[] {1, 1, 1, 1});
        Check.due("fewer ahead of least", y.seeds(0), 4);
        Check.due("one", y.seeds(1), 1);
    }

    private static void stopping() {
        LaughterIsMinted x = town(new int[] {32, 1, 2, 4, 8, 16}, new int[] {2, 1, 1, 1, 1, 1});
        Check.due("none away", x.stop(1, 6), 0);
        Check.due("the last", x.stop(1, 5), 2);
        Check.due("the next", x.stop(1, 1), 2);
        Check.due("can't be", x.stop(1, 0), -1);
        Check.due("nobody begins", x.stop(0, 0), 0);
        Check.due("two begin", x.stop(1 + 8, 4), 2);
        Check.due("two begin", x.stop(1 + 8, 3), 18);
        Check.due("both", x.stop(1 + 8, 2), 2 + 16);
        Check.due("can't be", x.stop(1 + 8, 1), -1);
        Check.due("all begin", x.stop(63, 6), 0);
        Check.due("all begin", x.stop(63, 5), -1);
        LaughterIsMinted y = town(new int[] {0, 1, 1, 6, 8}, new int[] {1, 1, 1, 2, 1});
        Check.due("one of two", y.stop(1, 3), 2);
        Check.due("one of two", y.stop(1, 2), 2);
        Check.due("both", y.stop(1, 1), 2 + 4);
        LaughterIsMinted z = town(new int[] {8, 4, 8, 0}, new int[] {1, 1, 1, 1});
        Check.due("fewer ahead of least", z.stop(8, 2), 4);
    }

    private static void refused() {
        LaughterIsMinted x = town(new int[] {0, 0}, new int[] {1, 1});
        for (int first : new int[] {-1, 4, 7, Integer.MIN_VALUE, Integer.MAX_VALUE}) {
            Check.due("caught", x.caught(first, 0), -2);
            Check.due("panic", x.panic(first, 0), -2);
            Check.due("stop", x.stop(first, 0), -2);
        }
        Check.due("minutes", x.caught(0, -1), -2);
        Check.due("minutes", x.caught(0, 10), -2);
        Check.due("what", x.panic(0, -1), -2);
        Check.due("what", x.panic(0, 2), -2);
        Check.due("what", x.seeds(-1), -2);
        Check.due("what", x.seeds(2), -2);
        Check.due("many", x.stop(0, -1), -2);
        Check.due("many", x.stop(0, 7), -2);
    }
}
