/** The edges that promises 30 to 32 name. */
public final class EdgesTownsTest {
    private static final int BIG = Edges.BIG, SMALL = Edges.SMALL;
    private static final long NO = Edges.NO;

    public static void main(String[] args) throws Exception {
        Edges.run(EdgesTownsTest.class, 30, 32);
    }

    // ---- rate

    static void promise30RateTakesAllPairsOfTowns() {
        LaughterIsMinted x = new LaughterIsMinted();
        for (int a = 0; a < 4; a++) {
            for (int b = 0; b < 4; b++) {
                if (a != b) {
                    Check.due("at first", x.rate(a, b, 200 + 10 * a + b), 100);
                }
            }
        }
        for (int a = 0; a < 4; a++) {
            for (int b = 0; b < 4; b++) {
                Check.due("change", x.change(a, b, 100), a == b ? 100 : 200 + 10 * a + b);
            }
        }
    }

    static void promise30RateTakes1To999() {
        LaughterIsMinted x = new LaughterIsMinted();
        Check.due("at first", x.rate(0, 3, 1), 100);
        Check.due("1", x.rate(0, 3, 999), 1);
        Check.due("999", x.rate(0, 3, 100), 999);
    }

    static void promise30RateRefusesV() {
        Edges.refused(-7, x -> x.rate(0, 1, 0), x -> x.rate(0, 1, 1000), x -> x.rate(3, 2, -1), x -> x.rate(3, 2, BIG),
            x -> x.rate(3, 2, SMALL));
    }

    static void promise30RateRefusesTownsThatAreNotThere() {
        Edges.refused(-5, x -> x.rate(-1, 0, 50), x -> x.rate(4, 0, 50), x -> x.rate(0, -1, 50), x -> x.rate(0, 4, 50),
            x -> x.rate(SMALL, 0, 50), x -> x.rate(0, BIG, 50), x -> x.rate(1, -1, 50), x -> x.rate(-1, 4, 50));
    }

    static void promise30RateRefusesTheSameTown() {
        Edges.refused(-5, x -> x.rate(0, 0, 50), x -> x.rate(3, 3, 50));
    }

    static void promise30TheTownsAreRefusedAheadOfV() {
        Edges.refused(-5, x -> x.rate(4, 0, 0), x -> x.rate(0, 4, 1000), x -> x.rate(2, 2, 0));
    }

    // ---- change

    static void promise31ChangeTakesMuch0To9999() {
        LaughterIsMinted x = new LaughterIsMinted();
        x.rate(1, 3, 999);
        Check.due("0", x.change(1, 3, 0), 0);
        Check.due("9999", x.change(1, 3, 9999), 99890);
        Check.due("9998", x.change(1, 3, 9998), 99880);
        x.rate(1, 3, 1);
        Check.due("9999", x.change(1, 3, 9999), 99);
    }

    static void promise31ChangeIsCut() {
        LaughterIsMinted x = new LaughterIsMinted();
        x.rate(0, 1, 1);
        Check.due("0.99", x.change(0, 1, 99), 0);
        Check.due("1", x.change(0, 1, 100), 1);
        Check.due("1.99", x.change(0, 1, 199), 1);
        x.rate(0, 1, 199);
        Check.due("1.99", x.change(0, 1, 1), 1);
    }

    static void promise31InItselfAsItIs() {
        LaughterIsMinted x = new LaughterIsMinted();
        for (int a = 0; a < 4; a++) {
            Check.due("0", x.change(a, a, 0), 0);
            Check.due("9999", x.change(a, a, 9999), 9999);
        }
    }

    static void promise31ChangeRefusesMuch() {
        Edges.refused(NO, x -> x.change(0, 1, -1), x -> x.change(0, 1, 10000), x -> x.change(0, 1, BIG),
            x -> x.change(0, 1, SMALL), x -> x.change(2, 2, -1), x -> x.change(2, 2, 10000));
    }

    static void promise31ChangeRefusesTownsThatAreNotThere() {
        Edges.refused(NO, x -> x.change(-1, 0, 1), x -> x.change(4, 0, 1), x -> x.change(0, -1, 1), x -> x.change(0, 4, 1),
            x -> x.change(4, 4, 1), x -> x.change(-1, -1, 1), x -> x.change(SMALL, 0, 1), x -> x.change(0, BIG, 1));
    }

    static void promise31ChangeChangesNothing() {
        Edges.stays(Edges::busy, 150, x -> x.change(0, 1, 100));
    }

    // ---- gain

    static void promise32NoRoundGains() {
        LaughterIsMinted x = new LaughterIsMinted();
        for (int a = 0; a < 4; a++) {
            for (int much : new int[] {0, 1, 9999}) {
                Check.due("none", x.gain(a, much, 0), 0);
                Check.due("as it was", x.gain(a, much, 1), much);
            }
        }
    }

    static void promise32GainTakesMuch0To9999() {
        LaughterIsMinted x = new LaughterIsMinted();
        x.rate(0, 1, 999);
        x.rate(1, 0, 999);
        Check.due("nothing of nothing", x.gain(0, 0, 0), 0);
        Check.due("nothing of nothing", x.gain(0, 0, 1), 0);
        Check.due("of 1", x.gain(0, 1, 1), 9 * 999 / 100);
        Check.due("of 9999", x.gain(0, 9999, 1), 99890L * 999 / 100);
        Check.due("of 9999", x.gain(0, 9999, 0), 2);
    }

    static void promise32GainRefusesMuch() {
        Edges.refused(NO, x -> x.gain(0, -1, 0), x -> x.gain(0, 10000, 0), x -> x.gain(0, BIG, 1), x -> x.gain(0, SMALL, 1));
    }

    static void promise32GainRefusesTownsThatAreNotThere() {
        Edges.refused(NO, x -> x.gain(-1, 1, 0), x -> x.gain(4, 1, 0), x -> x.gain(SMALL, 1, 1), x -> x.gain(BIG, 1, 1));
    }

    static void promise32GainRefusesWhat() {
        Edges.refused(NO, x -> x.gain(0, 1, -1), x -> x.gain(0, 1, 2), x -> x.gain(0, 1, BIG), x -> x.gain(0, 1, SMALL));
    }

    /** Nothing but the ways named gains; a round that is longer loses by each other way. */
    private static LaughterIsMinted ways(int... ways) {
        LaughterIsMinted x = new LaughterIsMinted();
        for (int a = 0; a < 4; a++) {
            for (int b = 0; b < 4; b++) {
                x.rate(a, b, 50);
            }
        }
        for (int way : ways) {
            x.rate(way / 10, way % 10, 200);
        }
        return x;
    }

    static void promise32RoundsThroughOneTwoThreeOthers() {
        Check.due("one", ways(1, 10).gain(0, 100, 0), 2);
        Check.due("one", ways(3, 30).gain(0, 100, 0), 4);
        Check.due("one", ways(30, 3).gain(3, 100, 0), 1);
        Check.due("two", ways(1, 12, 20).gain(0, 100, 0), 23);
        Check.due("two", ways(21, 13, 32).gain(2, 100, 0), 24);
        Check.due("three", ways(3, 31, 12, 20).gain(0, 100, 0), 423);
        Check.due("three", ways(32, 21, 10, 3).gain(3, 100, 0), 321);
        Check.due("four times", ways(32, 21, 10, 3).gain(3, 100, 1), 1600);
    }

    static void promise32EachOtherTownOnce() {
        LaughterIsMinted x = ways(12, 21, 1, 10);
        Check.due("not 1 2 1 2", x.gain(0, 100, 1), 400);
        Check.due("by 1 alone", x.gain(0, 100, 0), 2);
    }

    static void promise32NotStayingAtHome() {
        LaughterIsMinted x = ways();
        Check.due("no round", x.gain(0, 100, 0), 0);
        Check.due("as it was", x.gain(0, 100, 1), 100);
    }

    static void promise32MoreThanItWas() {
        LaughterIsMinted x = ways(1);
        Check.due("just as it was is none", x.gain(0, 100, 0), 0);
        Check.due("as it was", x.gain(0, 100, 1), 100);
        x.rate(1, 0, 51);
        Check.due("a little more", x.gain(0, 100, 0), 2);
        Check.due("a little more", x.gain(0, 100, 1), 102);
        Check.due("cut, it is not more", x.gain(0, 49, 0), 0);
        Check.due("cut, it is more", x.gain(0, 50, 0), 2);
    }

    static void promise32ChangedOneByOneEachIsCut() {
        LaughterIsMinted x = ways();
        x.rate(0, 1, 199);
        x.rate(1, 0, 199);
        Check.due("1 1 1", x.gain(0, 1, 0), 0);
        Check.due("2 3 5", x.gain(0, 2, 1), 5);
    }

    static void promise32OfLikeOnesBackHomeAsThatComesAmongTheTowns() {
        LaughterIsMinted x = new LaughterIsMinted();
        for (int b = 1; b < 4; b++) {
            x.rate(0, b, 200);
        }
        Check.due("from 0 back ahead of all", x.gain(0, 100, 0), 2);
        LaughterIsMinted y = new LaughterIsMinted();
        for (int b = 0; b < 4; b++) {
            y.rate(1, b, 200);
        }
        Check.due("from 1 to 0, back ahead of 2", y.gain(1, 100, 0), 1);
        LaughterIsMinted z = new LaughterIsMinted();
        for (int b = 0; b < 4; b++) {
            z.rate(2, b, 200);
        }
        Check.due("from 2 to 0, on to 1, back ahead of 3", z.gain(2, 100, 0), 12);
        LaughterIsMinted w = new LaughterIsMinted();
        for (int b = 0; b < 4; b++) {
            w.rate(3, b, 200);
        }
        Check.due("from 3 to 0, 1, 2, back behind all", w.gain(3, 100, 0), 123);
    }

    static void promise32TheMostOfAll() {
        LaughterIsMinted x = new LaughterIsMinted();
        for (int a = 0; a < 4; a++) {
            for (int b = 0; b < 4; b++) {
                x.rate(a, b, 999);
            }
        }
        Check.due("how much", x.gain(0, 9999, 1), 9999L * 999 / 100 * 999 / 100 * 999 / 100 * 999 / 100);
        Check.due("the others", x.gain(0, 9999, 0), 234);
        Check.due("the others", x.gain(3, 9999, 0), 123);
    }

    static void promise32GainChangesNothing() {
        Edges.stays(Edges::busy, 150, x -> x.gain(0, 100, 1));
        Edges.stays(Edges::busy, 2, x -> x.gain(0, 100, 0));
    }
}
