/** The edges that promises 42 to 45 name. */
public final class EdgesLotsTest {
    private static final int BIG = Edges.BIG, SMALL = Edges.SMALL;
    private static final long NO = Edges.NO, MODULUS = 2147483647L;

    public static void main(String[] args) throws Exception {
        Edges.run(EdgesLotsTest.class, 42, 45);
    }

    /** GROANERS that all have heard: each pair yields ever again 9 times the HEARER, and MORE, which is the JOKE. */
    private static LaughterIsMinted steady(int jokes, int hearers) {
        LaughterIsMinted x = new LaughterIsMinted();
        for (int j = 0; j < jokes; j++) {
            x.joke(3, j);
        }
        for (int h = 0; h < hearers; h++) {
            x.hearer(h, 1);
        }
        for (int h = 0; h < hearers; h++) {
            x.set(h, 3, (1 << jokes) - 1);
        }
        Edges.law(x, "humour*18", "0", "0");
        return x;
    }

    private static LaughterIsMinted steady() {
        return steady(5, 6);
    }

    private static int drawnByHand(int seed, int n, int jokes, int hearers) {
        long lot = seed + 1;
        int sum = 0;
        for (int k = 0; k < n; k++) {
            lot = lot * 48271 % MODULUS;
            sum += (int) (lot % jokes + lot / jokes % hearers * 9);
        }
        return sum;
    }

    // ---- drawn

    static void promise42DrawnTakesSeeds0To99999() {
        LaughterIsMinted x = steady();
        for (int seed : new int[] {0, 1, 2, 99998, 99999}) {
            Check.due("seed " + seed, x.drawn(seed, 10), drawnByHand(seed, 10, 5, 6));
        }
    }

    static void promise42DrawnRefusesSeeds() {
        Edges.refused(-2, x -> x.drawn(-1, 1), x -> x.drawn(100000, 1), x -> x.drawn(BIG, 1), x -> x.drawn(SMALL, 1));
    }

    static void promise42DrawnTakesN0To50() {
        LaughterIsMinted x = steady();
        for (int n = 0; n <= 50; n++) {
            Check.due("n " + n, x.drawn(4711, n), drawnByHand(4711, n, 5, 6));
        }
    }

    static void promise42DrawnRefusesN() {
        Edges.refused(-2, x -> x.drawn(0, -1), x -> x.drawn(0, 51), x -> x.drawn(0, BIG), x -> x.drawn(0, SMALL));
    }

    static void promise42Minus1WithoutJokesOrHearers() {
        Edges.stays(Edges::empty, -1, x -> x.drawn(0, 0), x -> x.drawn(99999, 50));
        Edges.stays(Edges::jokesAlone, -1, x -> x.drawn(0, 0), x -> x.drawn(5, 1));
        Edges.stays(Edges::hearersAlone, -1, x -> x.drawn(0, 0), x -> x.drawn(5, 1));
    }

    static void promise42NothingIsDrawn() {
        Edges.stays(Edges::busy, 0, x -> x.drawn(7, 0));
    }

    /** 44488 times 48271 is 2147480248, and 48271 more is above the modulus. */
    static void promise42ALotAroundTheModulus() {
        Check.due("by hand", 44488L * 48271, 2147480248L);
        for (int jokes = 1; jokes <= 5; jokes++) {
            for (int hearers = 1; hearers <= 6; hearers++) {
                LaughterIsMinted x = steady(jokes, hearers);
                long last = 2147480248L;
                long next = last + 48271 - MODULUS;
                Check.due("just below", x.drawn(44487, 1), last % jokes + last / jokes % hearers * 9);
                Check.due("wrapped", x.drawn(44488, 1), next % jokes + next / jokes % hearers * 9);
            }
        }
    }

    static void promise42AllManyOfJokesAndHearers() {
        for (int jokes = 1; jokes <= 5; jokes++) {
            for (int hearers = 1; hearers <= 6; hearers++) {
                LaughterIsMinted x = steady(jokes, hearers);
                for (int seed = 0; seed < 10; seed++) {
                    Check.due("drawn", x.drawn(seed * 11111, 20), drawnByHand(seed * 11111, 20, jokes, hearers));
                }
            }
        }
    }

    static void promise42EachFromAllAsItIsThen() {
        LaughterIsMinted x = Edges.pair(0, 0, 0);
        int[] due = {0, 20, 29, 37, 44, 50, 55, 59, 62, 64, 65, 65, 65};
        for (int n = 0; n < due.length; n++) {
            Check.due("n " + n, x.drawn(0, n), due[n]);
        }
        Check.due("n 50", x.drawn(0, 50), 65);
    }

    static void promise42DrawnChangesNothing() {
        Edges.stays(EdgesLotsTest::steady, drawnByHand(7, 50, 5, 6), x -> x.drawn(7, 50));
        Check.so("of what is worn", Edges.busy().drawn(3, 20) > 0);
        Edges.stays(() -> Edges.pair(0, 0, 0), 65, x -> x.drawn(0, 50));
    }

    // ---- odds

    private static void odds(LaughterIsMinted x, int seed, int tellings, int seeds, int much, long above, long below) {
        Check.due("above", x.odds(seed, 100 * tellings + seeds, much, 0), above);
        Check.due("below", x.odds(seed, 100 * tellings + seeds, much, 1), below);
    }

    private static void oddsByHand(LaughterIsMinted x, int seed, int tellings, int seeds, int much) {
        int above = 0;
        for (int k = 0; k < seeds; k++) {
            above += drawnByHand(seed + k, tellings, 5, 6) >= much ? 1 : 0;
        }
        int divisor = java.math.BigInteger.valueOf(above).gcd(java.math.BigInteger.valueOf(seeds)).intValue();
        odds(x, seed, tellings, seeds, much, above / divisor, seeds / divisor);
    }

    static void promise43OddsTakesSeeds0To99999() {
        LaughterIsMinted x = steady();
        oddsByHand(x, 0, 3, 50, 90);
        oddsByHand(x, 99999, 3, 1, 0);
        oddsByHand(x, 99950, 3, 50, 90);
    }

    static void promise43TheSeedsBehindTheSeedMayBeAbove99999() {
        oddsByHand(steady(), 99999, 3, 50, 90);
    }

    static void promise43OddsRefusesSeeds() {
        Edges.refused(NO, x -> x.odds(-1, 101, 0, 0), x -> x.odds(100000, 101, 0, 0), x -> x.odds(BIG, 101, 0, 0),
            x -> x.odds(SMALL, 101, 0, 1));
    }

    static void promise43OddsTakes0To50Tellings() {
        LaughterIsMinted x = steady();
        odds(x, 5, 0, 10, 0, 1, 1);
        odds(x, 5, 0, 10, 1, 0, 1);
        oddsByHand(x, 5, 50, 20, 1300);
        oddsByHand(x, 5, 49, 20, 1300);
    }

    static void promise43OddsTakes1To50Seeds() {
        LaughterIsMinted x = steady();
        oddsByHand(x, 5, 2, 1, 10);
        oddsByHand(x, 5, 2, 49, 60);
        oddsByHand(x, 5, 2, 50, 60);
    }

    static void promise43OddsRefusesManySeeds() {
        Edges.refused(NO, x -> x.odds(0, 0, 0, 0), x -> x.odds(0, 100, 0, 0), x -> x.odds(0, 5000, 0, 0),
            x -> x.odds(0, 51, 0, 0), x -> x.odds(0, 99, 0, 1), x -> x.odds(0, 5051, 0, 1), x -> x.odds(0, 5100, 0, 1),
            x -> x.odds(0, 5101, 0, 0), x -> x.odds(0, BIG, 0, 0));
    }

    static void promise43OddsRefusesManySeedsBelow0() {
        Edges.refused(NO, x -> x.odds(0, -1, 0, 0), x -> x.odds(0, -99, 0, 0), x -> x.odds(0, -50, 0, 0),
            x -> x.odds(0, -100, 0, 1), x -> x.odds(0, SMALL, 0, 1));
    }

    static void promise43OddsTakesMuch0To9999() {
        LaughterIsMinted x = steady();
        odds(x, 9, 4, 30, 0, 1, 1);
        odds(x, 9, 4, 30, 9999, 0, 1);
    }

    static void promise43OddsRefusesMuch() {
        Edges.refused(NO, x -> x.odds(0, 101, -1, 0), x -> x.odds(0, 101, 10000, 0), x -> x.odds(0, 101, BIG, 1),
            x -> x.odds(0, 101, SMALL, 1));
    }

    static void promise43OddsRefusesParts() {
        Edges.refused(NO, x -> x.odds(0, 101, 0, -1), x -> x.odds(0, 101, 0, 2), x -> x.odds(0, 101, 0, BIG),
            x -> x.odds(0, 101, 0, SMALL));
    }

    static void promise43NoJokesNoHearers() {
        Edges.stays(Edges::empty, NO, x -> x.odds(0, 101, 0, 0), x -> x.odds(0, 1, 0, 1));
        Edges.stays(Edges::jokesAlone, NO, x -> x.odds(0, 101, 0, 0), x -> x.odds(0, 1, 0, 1));
        Edges.stays(Edges::hearersAlone, NO, x -> x.odds(0, 101, 0, 0), x -> x.odds(0, 1, 0, 1));
    }

    static void promise43MuchOrMore() {
        LaughterIsMinted x = Edges.pair(0, 0, 0);
        odds(x, 0, 1, 7, 20, 1, 1);
        odds(x, 0, 1, 7, 21, 0, 1);
    }

    static void promise43InLowestTerms() {
        LaughterIsMinted x = steady();
        for (int seeds = 1; seeds <= 50; seeds++) {
            oddsByHand(x, 31, 2, seeds, 50);
        }
    }

    static void promise43OddsChangesNothing() {
        Edges.stays(EdgesLotsTest::steady, 1, x -> x.odds(0, 5050, 0, 0));
        Edges.stays(() -> Edges.pair(0, 0, 0), 1, x -> x.odds(0, 5050, 65, 1));
    }

    // ---- image, back

    static void promise44AnImageOfNothing() {
        LaughterIsMinted x = new LaughterIsMinted();
        Check.due("image", x.image(), 0);
        x.joke(0, 0);
        x.hearer(0, 1);
        Check.due("back", x.back(), 0);
        Check.due("jokes", x.count(0), 0);
        Check.due("hearers", x.count(1), 0);
        Check.due("no such joke", x.told(0, 0), -5);
        Check.due("no such hearer", x.of(0, 0), -5);
        Check.due("as many as can be", x.joke(4, 2), 0);
    }

    static void promise44AnImageOfAllPlaces() {
        LaughterIsMinted x = Edges.crowd();
        Check.due("image", x.image(), 5);
        for (int k = 0; k < 30; k++) {
            x.tell(k % 5, k % 6);
        }
        Check.due("back", x.back(), 5);
        Check.so("as it was", Probe.of(() -> {
            LaughterIsMinted y = Edges.crowd();
            y.image();
            return y;
        }).equals(Probe.of(() -> {
            LaughterIsMinted y = Edges.crowd();
            y.image();
            for (int k = 0; k < 30; k++) {
                y.tell(k % 5, k % 6);
            }
            y.night();
            y.rate(0, 1, 5);
            y.set(0, 0, 9);
            y.set(1, 4, 9);
            y.set(2, 2, 1);
            y.back();
            return y;
        })));
    }

    static void promise44TheLastImageIsKept() {
        LaughterIsMinted x = Edges.pair(0, 0, 0);
        x.image();
        x.set(0, 1, 5);
        Check.due("one joke", x.image(), 1);
        x.set(0, 1, 7);
        x.back();
        Check.due("the second image", x.of(0, 1), 5);
    }

    static void promise44AnImageChangesNothingButTheImage() {
        LaughterIsMinted x = Edges.busy();
        Check.due("three jokes", x.image(), 3);
        Check.due("day", x.count(2), 1);
        Check.due("bytes", x.count(5), 3);
        Check.due("worn", x.told(2, 2), 2);
        Check.due("back is as it is", x.back(), 3);
        Check.due("worn", x.told(2, 2), 2);
        Check.due("purse", x.of(2, 1), 9091);
        Check.due("rate", x.change(3, 2, 100), 77);
    }

    static void promise45BackIsStateWithoutAnImage() {
        Edges.stays(Edges::empty, -3, x -> x.back());
        Edges.stays(Edges::crowd, -3, x -> x.back());
    }

    static void promise45BackAgainAndAgain() {
        LaughterIsMinted x = Edges.pair(0, 0, 0);
        x.image();
        for (int k = 0; k < 3; k++) {
            x.tell(0, 0);
            Check.due("back", x.back(), 1);
            Check.due("purse", x.of(0, 1), 0);
            Check.due("worn", x.told(0, 2), 0);
            Check.due("heard", x.of(0, 3), 0);
        }
    }

    static void promise45JokesAndHearersThatCameSinceAreNone() {
        LaughterIsMinted x = Edges.busy();
        x.joke(0, 0);
        x.joke(0, 0);
        x.hearer(0, 1);
        x.hearer(0, 1);
        x.hearer(0, 1);
        x.set(0, 2, 62);
        x.set(0, 3, 31);
        Check.due("back", x.back(), 3);
        Check.due("hearers", x.count(1), 3);
        Check.due("no such joke", x.told(3, 0), -5);
        Check.due("no such hearer", x.of(3, 0), -5);
        Check.due("friends", x.of(0, 2), 2);
        Check.due("heard", x.of(0, 3), 0);
        Check.due("no such friends", x.set(0, 2, 8), -7);
        Check.due("no such jokes", x.set(0, 3, 8), -7);
        Check.due("there is room", x.joke(0, 0), 3);
        Check.due("there is room", x.hearer(0, 1), 3);
    }

    static void promise45AllThatItKeeps() {
        LaughterIsMinted x = Edges.busy();
        x.back();
        int[] counts = {3, 3, 0, 2, 1, 3};
        for (int what = 0; what < 6; what++) {
            Check.due("count " + what, x.count(what), counts[what]);
        }
        int[] catches = {1, 2, 1};
        int[] humours = {3, 5, 9};
        int[] friends = {2, 5, 3};
        for (int i = 0; i < 3; i++) {
            Check.due("worn", x.told(i, 2), 0);
            Check.due("humour", x.of(i, 0), humours[i]);
            Check.due("purse", x.of(i, 1), 0);
            Check.due("friends", x.of(i, 2), friends[i]);
            Check.due("heard", x.of(i, 3), 0);
            Check.due("catches", x.of(i, 4), catches[i]);
        }
        for (int a = 0; a < 16; a++) {
            Check.due("rate", x.change(a / 4, a % 4, 100), 100);
        }
    }

    static void promise45TheLawIsAsItWas() {
        LaughterIsMinted x = new LaughterIsMinted();
        x.image();
        Edges.law(x, "1", "1", "1");
        Check.due("the law", x.count(4), 1);
        x.back();
        Check.due("the law", x.count(4), 0);
        Check.due("the texts stay", x.count(3), 2);
    }

    static void promise45SheetsTheTapeAndTextsStay() {
        LaughterIsMinted x = Edges.busy();
        Check.sheet(x, 3, 2, 20 + 9, 14 + 4, 29 + 18);
        x.feed(2, 'l', 'd', 0, 0, 0);
        x.back();
        Check.due("the sheet", x.whose(3), 1);
        Check.due("bytes", x.count(5), 5);
        Check.due("texts", x.count(3), 2);
    }
}
