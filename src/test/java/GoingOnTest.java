/** Promises 26 to 29: spread, through, origin, furthest. */
public final class GoingOnTest {
    public static void main(String[] args) {
        chain();
        byNumbers();
        toMany();
        chestnutStays();
        origins();
        refused();
        Check.end("GoingOnTest");
    }

    private static void chain() {
        LaughterIsMinted x = Edges.town(0, 0, 2, 4, 8, 16, 32, 0);
        for (int days = 0; days <= 20; days++) {
            Check.due("days " + days, x.spread(0, 1, days), (1 << Math.min(6, days + 1)) - 1);
        }
        Check.due("who has it as the day began", x.spread(0, 5, 1), 15);
        Check.due("nobody", x.spread(0, 0, 20), 0);
        Check.due("five days", x.through(0, 0), 5);
        Check.due("never", x.through(0, 1), -1);
        Check.due("furthest", x.furthest(0, 2, 0), 0);
        Check.due("how many", x.furthest(0, 2, 1), 3);
        Check.due("of like ones", x.furthest(0, 0, 0), 0);
        Check.due("how many", x.furthest(0, 0, 1), 1);
        LaughterIsMinted y = Edges.town(0, 0, 0, 1, 2);
        Check.due("furthest", y.furthest(0, 20, 0), 2);
        Check.due("how many", y.furthest(0, 20, 1), 3);
        Check.due("heard does not matter", y.set(0, 3, 1), 0);
        Check.due("furthest", y.furthest(0, 20, 1), 3);
        LaughterIsMinted alone = Edges.town(4, 0, 0);
        Check.due("at once", alone.through(0, 0), 0);
        LaughterIsMinted z = Edges.town(0, 0, 62, 0, 0, 0, 0, 0);
        Check.due("one a day", z.through(0, 0), 5);
        Check.due("one a day", z.spread(0, 1, 3), 15);
    }

    /** What one tells on, the next one no longer tells to the same. */
    private static void byNumbers() {
        LaughterIsMinted x = Edges.town(0, 0, 12, 12, 0, 0);
        Check.due("not twice", x.spread(0, 3, 1), 15);
        LaughterIsMinted y = Edges.town(0, 0, 2, 4, 0);
        Check.due("not on the same day", y.spread(0, 1, 1), 3);
        LaughterIsMinted z = Edges.town(0, 0, 6, 12, 8, 0);
        Check.due("the first friends who have it not", z.spread(0, 5, 1), 15);
    }

    private static void toMany() {
        LaughterIsMinted x = Edges.town(1, 0, 62, 0, 0, 0, 0, 0);
        Check.due("pun", x.spread(0, 1, 1), 7);
        Check.due("pun", x.through(0, 0), 3);
        LaughterIsMinted g = Edges.town(3, 0, 62, 0, 0, 0, 0, 0);
        Check.due("groaner", g.spread(0, 1, 2), 31);
        LaughterIsMinted y = Edges.town(2, 9, 62, 0, 0, 0, 0, 0);
        Check.due("yarn", y.spread(0, 1, 2), 7);
        int[] due = {3, 3, 3, 7, 7, 7, 15, 15, 15, 31};
        for (int more = 0; more <= 9; more++) {
            LaughterIsMinted b = Edges.town(5, more, 62, 0, 0, 0, 0, 0);
            Check.due("borrowed " + more, b.spread(0, 1, 1), due[more]);
        }
    }

    private static void chestnutStays() {
        LaughterIsMinted x = Edges.town(4, 9, 62, 61, 59, 55, 47, 31);
        Check.due("stays", x.spread(0, 9, 20), 9);
        Check.due("never", x.through(0, 0), -1);
        Check.due("just these", x.origin(0, 8, 20), 8);
        Check.due("how many", x.furthest(0, 20, 1), 1);
    }

    private static void origins() {
        LaughterIsMinted x = Edges.town(0, 0, 2, 1, 1, 2);
        Check.due("two could be", x.origin(0, 3, 1), 3);
        Check.due("not later", x.origin(0, 5, 1), 4);
        Check.due("later", x.origin(0, 7, 2), 4);
        Check.due("just these", x.origin(0, 7, 1), 0);
        Check.due("no days", x.origin(0, 8, 0), 8);
        Check.due("none", x.origin(0, 0, 5), 0);
        Check.due("the other", x.origin(0, 11, 20), 8);
    }

    private static void refused() {
        LaughterIsMinted none = new LaughterIsMinted();
        Check.due("spread", none.spread(0, 9, 99), -5);
        Check.due("through", none.through(0, 0), -5);
        Check.due("origin", none.origin(0, 9, 99), -5);
        Check.due("furthest", none.furthest(0, 99, 9), -5);
        none.joke(0, 0);
        Check.due("nobody", none.spread(0, 0, 0), 0);
        Check.due("through", none.through(0, 0), -6);
        Check.due("nobody", none.origin(0, 0, 0), 0);
        Check.due("none", none.furthest(0, 0, 0), -1);
        Check.due("none", none.furthest(0, 0, 1), -1);
        Check.due("what", none.furthest(0, 0, 2), -7);
        LaughterIsMinted x = Edges.town(0, 0, 0, 0);
        for (int bits : new int[] {-1, 4, Integer.MIN_VALUE}) {
            Check.due("first", x.spread(0, bits, 0), -7);
            Check.due("have", x.origin(0, bits, 0), -7);
        }
        for (int days : new int[] {-1, 21}) {
            Check.due("days", x.spread(0, 0, days), -7);
            Check.due("days", x.origin(0, 0, days), -7);
            Check.due("days", x.furthest(0, days, 0), -7);
        }
        Check.due("what", x.furthest(0, 0, -1), -7);
        Check.due("what", x.furthest(0, 0, 2), -7);
        Check.due("no such joke", x.spread(1, 0, 0), -5);
        Check.due("no such joke", x.through(-1, 5), -5);
        Check.due("no such hearer", x.through(0, 2), -6);
        Check.due("no such hearer", x.through(0, -1), -6);
    }
}
