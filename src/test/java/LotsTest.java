/** Promises 42 to 45: drawn, odds, image, back. */
public final class LotsTest {
    private static final long NO = -4611686018427387904L;

    public static void main(String[] args) {
        nobody();
        lots();
        drawnByHand();
        odds();
        refused();
        images();
        noImage();
        Check.end("LotsTest");
    }

    private static void nobody() {
        LaughterIsMinted none = new LaughterIsMinted();
        LaughterIsMinted jokes = new LaughterIsMinted();
        jokes.joke(0, 0);
        LaughterIsMinted hearers = new LaughterIsMinted();
        hearers.hearer(0, 1);
        for (LaughterIsMinted x : new LaughterIsMinted[] {none, jokes, hearers}) {
            Check.due("drawn", x.drawn(0, 5), -1);
            Check.due("drawn", x.drawn(0, 0), -1);
            Check.due("drawn", x.drawn(-1, 0), -2);
            Check.due("odds", x.odds(0, 101, 0, 0), NO);
        }
    }

    /** With GROANERS that were heard each pair yields its own number ever again. */
    private static LaughterIsMinted steady() {
        LaughterIsMinted x = new LaughterIsMinted();
        for (int j = 0; j < 3; j++) {
            x.joke(3, j);
        }
        for (int h = 0; h < 4; h++) {
            x.hearer(h, 1);
        }
        for (int h = 0; h < 4; h++) {
            x.set(h, 3, 7);
        }
        x.force(Check.read(x, "yields hearer*20;fades 0;minds 0;"));
        return x;
    }

    private static void lots() {
        LaughterIsMinted x = steady();
        for (int seed : new int[] {0, 1, 7, 48270, 99999}) {
            long lot = seed + 1L;
            long sum = 0;
            for (int n = 0; n <= 50; n++) {
                Check.due("drawn " + seed + " " + n, x.drawn(seed, n), sum);
                lot = lot * 48271 % 2147483647L;
                sum += lot % 3 + lot / 3 % 4 * 10;
            }
        }
    }

    /** The first lot of SEED 0 is 48271, the next one 182605794, the third 1291394886. */
    private static void drawnByHand() {
        LaughterIsMinted x = new LaughterIsMinted();
        x.joke(0, 0);
        x.joke(2, 0);
        x.hearer(0, 1);
        x.hearer(1, 1);
        x.hearer(2, 1);
        Check.due("nothing", x.drawn(0, 0), 0);
        Check.due("joke 1 to hearer 24135 mod 3", x.drawn(0, 1), 20);
        Check.due("joke 0 to hearer 91302897 mod 3", x.drawn(0, 2), 20 + 20);
        Check.due("joke 0 to hearer 645697443 mod 3", x.drawn(0, 3), 20 + 20 + 9);
        Check.due("in thought", x.told(1, 2), 0);
        Check.due("in thought", x.of(0, 1), 0);
        Check.due("in thought", x.of(0, 3), 0);
    }

    private static long[] lowest(LaughterIsMinted x, int seed, int seeds, int n, int much) {
        int above = 0;
        for (int k = 0; k < seeds; k++) {
            if (x.drawn(seed + k, n) >= much) {
                above++;
            }
        }
        int d = java.math.BigInteger.valueOf(above).gcd(java.math.BigInteger.valueOf(seeds)).intValue();
        return new long[] {above / d, seeds / d};
    }

    private static void odds() {
        LaughterIsMinted x = steady();
        int[][] asked = {{0, 1, 1, 0}, {5, 20, 9, 150}, {100, 48, 3, 50}, {77, 50, 50, 800}, {0, 12, 2, 9999},
            {0, 10, 0, 0}, {0, 10, 0, 1}, {9, 36, 1, 20}, {99950, 50, 4, 60}};
        for (int[] a : asked) {
            long[] due = lowest(x, a[0], a[1], a[2], a[3]);
            Check.due("above", x.odds(a[0], a[2] * 100 + a[1], a[3], 0), due[0]);
            Check.due("below", x.odds(a[0], a[2] * 100 + a[1], a[3], 1), due[1]);
        }
        int exactly = x.drawn(3, 5);
        Check.due("or more", x.odds(3, 501, exactly, 0), 1);
        Check.due("more", x.odds(3, 501, exactly + 1, 0), 0);
        Check.due("nothing of 10", x.odds(0, 10, 1, 0), 0);
        Check.due("in lowest terms", x.odds(0, 10, 1, 1), 1);
        Check.due("all", x.odds(0, 30, 0, 1), 1);
        Check.due("in thought", x.of(0, 1), 0);
    }

    private static void refused() {
        LaughterIsMinted x = steady();
        Check.due("seed", x.drawn(-1, 0), -2);
        Check.due("seed", x.drawn(100000, 0), -2);
        Check.due("n", x.drawn(0, -1), -2);
        Check.due("n", x.drawn(0, 51), -2);
        int[][] bad = {{-1, 101, 0, 0}, {100000, 101, 0, 0}, {0, 100, 0, 0}, {0, 51, 0, 0}, {0, 99, 0, 0}, {0, 0, 0, 0},
            {0, 5101, 0, 0}, {0, -1, 0, 0}, {0, -99, 0, 0}, {0, 101, -1, 0}, {0, 101, 10000, 0}, {0, 101, 0, -1},
            {0, 101, 0, 2}, {0, Integer.MIN_VALUE, 0, 0}, {0, Integer.MAX_VALUE, 0, 0}};
        for (int[] b : bad) {
            Check.due("odds", x.odds(b[0], b[1], b[2], b[3]), NO);
        }
        Check.due("edge", x.odds(99999, 5050, 9999, 0), 0);
    }

    private static void noImage() {
        LaughterIsMinted x = new LaughterIsMinted();
        Check.due("none", x.back(), -3);
        x.joke(0, 0);
        Check.due("none", x.back(), -3);
        Check.due("as it was", x.count(0), 1);
        Check.due("image", x.image(), 1);
        Check.due("image", x.back(), 1);
    }

    private static void images() {
        LaughterIsMinted x = new LaughterIsMinted();
        x.joke(0, 4);
        x.joke(1, 5);
        x.hearer(1, 2);
        x.hearer(3, 4);
        x.tell(0, 0);
        x.set(1, 2, 1);
        x.rate(1, 2, 77);
        x.night();
        Check.read(x, "yields 1;fades 0;minds 0;");
        x.force(1);
        Check.due("how many jokes", x.image(), 2);

        x.joke(2, 2);
        x.hearer(5, 5);
        x.tell(0, 1);
        x.tell(2, 0);
        x.set(0, 0, 9);
        x.set(0, 1, 99);
        x.set(1, 2, 4);
        x.set(0, 3, 6);
        x.set(1, 4, 9);
        x.rate(1, 2, 5);
        x.rate(3, 0, 5);
        x.night();
        x.force(0);
        Check.read(x, "yields 2;fades 0;minds 0;");
        x.feed(2, 1, 1, 1, 1, 1);
        Check.sheet(x, 0, 0, 1, 2);
        for (int k = 0; k < 2; k++) {
            Check.due("how many jokes", x.back(), 2);
            int[] counts = {2, 2, 1, 3, 1, 2};
            for (int what = 0; what < 6; what++) {
                Check.due("count " + what, x.count(what), counts[what]);
            }
            int[][] hearers = {{1, 21, 0, 1, 2}, {3, 0, 1, 0, 4}};
            for (int h = 0; h < 2; h++) {
                for (int what = 0; what < 5; what++) {
                    Check.due("of " + h + " " + what, x.of(h, what), hearers[h][what]);
                }
            }
            Check.due("worn", x.told(0, 2), 1);
            Check.due("kind", x.told(0, 0), 0);
            Check.due("more", x.told(1, 1), 5);
            Check.due("rate", x.rate(1, 2, 33), 77);
            Check.due("rate", x.rate(3, 0, 34), 100);
            Check.due("sheet", x.cell(0, 1, 3), 1);
            Check.due("sheet", x.cell(0, 2, 3), -12);
            Check.due("a new one", x.joke(4, 9), 2);
            Check.due("not heard", x.of(0, 3), 1);
            Check.due("not worn", x.told(2, 2), 0);
            Check.due("a new one", x.hearer(8, 8), 2);
            Check.due("no purse", x.of(2, 1), 0);
            Check.due("heard none", x.of(2, 3), 0);
            Check.due("no friends", x.of(2, 2), 0);
        }
        Check.due("a later image", x.image(), 3);
        x.joke(0, 0);
        Check.due("back", x.back(), 3);
        Check.due("kind", x.told(2, 0), 4);
        Check.due("hearers", x.count(1), 3);
    }
}
