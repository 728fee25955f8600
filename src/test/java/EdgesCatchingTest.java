/** The edges that promises 22 to 25 name. */
public final class EdgesCatchingTest {
    private static final int BIG = Edges.BIG, SMALL = Edges.SMALL;

    public static void main(String[] args) throws Exception {
        Edges.run(EdgesCatchingTest.class, 22, 25);
    }

    private static LaughterIsMinted town(int[] friends, int... catches) {
        LaughterIsMinted x = new LaughterIsMinted();
        for (int h = 0; h < friends.length; h++) {
            x.hearer(0, h < catches.length ? catches[h] : 1);
        }
        for (int h = 0; h < friends.length; h++) {
            Check.due("friends", x.set(h, 2, friends[h]), 0);
        }
        return x;
    }

    private static int[] friends(int... bits) {
        return bits;
    }

    /** All six, each with the one ahead of it as a FRIEND, the first with nobody. */
    private static LaughterIsMinted chain() {
        return town(friends(0, 1, 2, 4, 8, 16));
    }

    /** All six, each with all others as FRIENDS, who catch from so many. */
    private static LaughterIsMinted all(int from) {
        int[] others = new int[6];
        int[] catches = new int[6];
        for (int h = 0; h < 6; h++) {
            others[h] = 63 & ~(1 << h);
            catches[h] = from;
        }
        return town(others, catches);
    }

    // ---- caught

    static void promise22CaughtTakesMinutes0To9() {
        LaughterIsMinted x = chain();
        int[] due = {1, 3, 7, 15, 31, 63, 63, 63, 63, 63};
        for (int minutes = 0; minutes <= 9; minutes++) {
            Check.due("minutes " + minutes, x.caught(1, minutes), due[minutes]);
        }
    }

    static void promise22CaughtRefusesMinutes() {
        Edges.refused(-2, x -> x.caught(1, -1), x -> x.caught(1, 10), x -> x.caught(1, BIG), x -> x.caught(1, SMALL));
    }

    static void promise22CaughtTakesNobodyToAll() {
        LaughterIsMinted x = chain();
        for (int first = 0; first <= 63; first++) {
            Check.due("first", x.caught(first, 0), first);
        }
        Check.due("nobody begins", x.caught(0, 9), 0);
        Check.due("all begin", x.caught(63, 9), 63);
    }

    static void promise22CaughtRefusesHearersWhoAreNotThere() {
        Edges.refused(-2, x -> x.caught(8, 0), x -> x.caught(15, 0), x -> x.caught(-1, 0), x -> x.caught(SMALL, 0),
            x -> x.caught(BIG, 0));
        Edges.stays(Edges::empty, -2, x -> x.caught(1, 0));
        Edges.stays(Edges::crowd, -2, x -> x.caught(64, 0), x -> x.caught(65, 0));
    }

    static void promise22ThereIsNobody() {
        Edges.stays(Edges::empty, 0, x -> x.caught(0, 0), x -> x.caught(0, 9));
    }

    static void promise22JustAsManyAsOneCatchesFrom() {
        for (int from = 1; from <= 5; from++) {
            LaughterIsMinted x = all(from);
            int enough = (1 << from) - 1;
            int fewer = (1 << from - 1) - 1;
            Check.due("as many", x.caught(enough, 1), 63);
            Check.due("one less", x.caught(fewer, 9), fewer);
        }
        Check.due("nobody catches from six", all(6).caught(31, 9), 31);
        Check.due("nobody catches from nine", all(9).caught(31, 9), 31);
    }

    static void promise22MoreThanOneCatchesFrom() {
        Check.due("two of one", all(1).caught(3, 1), 63);
        Check.due("five of two", all(2).caught(31, 1), 63);
    }

    static void promise22OneWhoLaughedAheadOfTheMinute() {
        LaughterIsMinted x = chain();
        Check.due("not by who laughs in it", x.caught(1, 1), 3);
        LaughterIsMinted y = town(friends(2, 4, 8, 16, 32, 0));
        Check.due("the other way", y.caught(32, 1), 48);
        Check.due("the other way", y.caught(32, 2), 56);
    }

    static void promise22WhoLaughsGoesOn() {
        LaughterIsMinted x = town(friends(0, 0, 0), 9, 9, 9);
        Check.due("alone", x.caught(5, 9), 5);
    }

    static void promise22CaughtChangesNothing() {
        Edges.stays(Edges::busy, 7, x -> x.caught(5, 1));
    }

    // ---- panic

    static void promise23PanicRefusesWhat() {
        Edges.refused(-2, x -> x.panic(1, -1), x -> x.panic(1, 2), x -> x.panic(1, BIG), x -> x.panic(1, SMALL));
    }

    static void promise23PanicRefusesHearersWhoAreNotThere() {
        Edges.refused(-2, x -> x.panic(8, 0), x -> x.panic(9, 1), x -> x.panic(-1, 0), x -> x.panic(SMALL, 1),
            x -> x.panic(BIG, 0));
        Edges.stays(Edges::empty, -2, x -> x.panic(1, 0), x -> x.panic(1, 1));
        Edges.stays(Edges::crowd, -2, x -> x.panic(64, 0), x -> x.panic(64, 1));
    }

    static void promise23AtOnceIs0Minutes() {
        LaughterIsMinted x = chain();
        Check.due("nobody begins", x.panic(0, 1), 0);
        Check.due("nobody begins", x.panic(0, 0), 0);
        Check.due("all begin", x.panic(63, 1), 0);
        Check.due("all begin", x.panic(63, 0), 63);
        Check.due("the last one begins", x.panic(32, 1), 0);
        Check.due("the last one begins", x.panic(32, 0), 32);
    }

    static void promise23TheLongestPanic() {
        LaughterIsMinted x = chain();
        Check.due("five minutes", x.panic(1, 1), 5);
        Check.due("all", x.panic(1, 0), 63);
        Check.due("one minute", x.panic(16, 1), 1);
        Check.due("two", x.panic(16, 0), 48);
    }

    static void promise23ThereIsNobody() {
        Edges.stays(Edges::empty, 0, x -> x.panic(0, 0), x -> x.panic(0, 1));
    }

    static void promise23PanicChangesNothing() {
        Edges.stays(EdgesCatchingTest::chain, 5, x -> x.panic(1, 1));
        Edges.stays(EdgesCatchingTest::chain, 63, x -> x.panic(1, 0));
    }

    // ---- seeds

    static void promise24SeedsRefusesWhat() {
        Edges.refused(-2, x -> x.seeds(-1), x -> x.seeds(2), x -> x.seeds(BIG), x -> x.seeds(SMALL));
    }

    static void promise24ThereIsNobody() {
        Edges.stays(Edges::empty, 0, x -> x.seeds(0), x -> x.seeds(1));
    }

    static void promise24OneAlone() {
        LaughterIsMinted x = town(friends(0));
        Check.due("who", x.seeds(0), 1);
        Check.due("how many", x.seeds(1), 1);
    }

    static void promise24AllMustBegin() {
        LaughterIsMinted x = all(6);
        Check.due("who", x.seeds(0), 63);
        Check.due("how many", x.seeds(1), 6);
    }

    static void promise24TheLeastBitsOfLikeOnes() {
        for (int from = 1; from <= 5; from++) {
            LaughterIsMinted x = all(from);
            Check.due("who", x.seeds(0), (1 << from) - 1);
            Check.due("how many", x.seeds(1), from);
        }
    }

    static void promise24TheFewestAheadOfTheLeastBits() {
        LaughterIsMinted x = town(friends(32, 32, 32, 32, 32, 0));
        Check.due("who", x.seeds(0), 32);
        Check.due("how many", x.seeds(1), 1);
        LaughterIsMinted y = town(friends(0, 1, 2, 0, 8, 16));
        Check.due("who", y.seeds(0), 9);
        Check.due("how many", y.seeds(1), 2);
    }

    static void promise24SeedsChangesNothing() {
        Edges.stays(EdgesCatchingTest::chain, 1, x -> x.seeds(0), x -> x.seeds(1));
    }

    // ---- stop

    static void promise25StopTakesMany0To6() {
        LaughterIsMinted x = chain();
        for (int many = 0; many <= 6; many++) {
            Check.due("many " + many, x.stop(1, many), many == 0 ? -1 : many == 6 ? 0 : 2);
        }
        LaughterIsMinted y = town(friends(2, 4, 8, 16, 32, 0));
        for (int many = 1; many <= 5; many++) {
            Check.due("the first of those who keep it from so many", y.stop(32, many), 1 << Math.max(0, 5 - many));
        }
    }

    static void promise25StopRefusesMany() {
        Edges.refused(-2, x -> x.stop(1, -1), x -> x.stop(1, 7), x -> x.stop(1, BIG), x -> x.stop(1, SMALL));
    }

    static void promise25StopRefusesHearersWhoAreNotThere() {
        Edges.refused(-2, x -> x.stop(8, 0), x -> x.stop(15, 6), x -> x.stop(-1, 0), x -> x.stop(SMALL, 0));
        Edges.stays(Edges::empty, -2, x -> x.stop(1, 0));
        Edges.stays(Edges::crowd, -2, x -> x.stop(64, 0));
    }

    static void promise25ThereIsNobody() {
        Edges.stays(Edges::empty, 0, x -> x.stop(0, 0), x -> x.stop(0, 6));
    }

    static void promise25NobodyBegins() {
        Edges.stays(EdgesCatchingTest::chain, 0, x -> x.stop(0, 0), x -> x.stop(0, 6));
    }

    static void promise25ItCantBeIfMoreBegin() {
        LaughterIsMinted x = chain();
        Check.due("one begins", x.stop(1, 0), -1);
        Check.due("three begin", x.stop(7, 2), -1);
        Check.due("three begin", x.stop(7, 3), 8);
        Check.due("all begin", x.stop(63, 5), -1);
        Check.due("all begin", x.stop(63, 6), 0);
    }

    static void promise25OnlyOthersAreSentAway() {
        LaughterIsMinted x = town(friends(0, 1, 2));
        Check.due("not the second, who laughs at first", x.stop(3, 2), 4);
    }

    static void promise25NoMoreThanMany() {
        LaughterIsMinted x = all(1);
        Check.due("all", x.stop(1, 6), 0);
        Check.due("five", x.stop(1, 5), 2);
        Check.due("four", x.stop(1, 4), 2 + 4);
        Check.due("one", x.stop(1, 1), 62);
    }

    static void promise25TheLeastBitsOfLikeOnes() {
        LaughterIsMinted x = town(friends(6, 0, 0, 1, 1, 8));
        Check.due("one of the three behind 0", x.stop(6, 5), 1);
        LaughterIsMinted y = town(friends(0, 1, 1, 2, 2, 4));
        Check.due("the second, who brings two", y.stop(1, 3), 2);
        Check.due("both", y.stop(1, 1), 6);
        Check.due("the third and one of the second's", y.stop(1, 2), 6);
    }

    static void promise25TheFewestAheadOfTheLeastBits() {
        LaughterIsMinted x = town(friends(4, 4, 8, 0));
        Check.due("the third alone", x.stop(8, 1), 4);
        Check.due("the first alone is less than the third", x.stop(8, 3), 1);
        Check.due("the third, rather than the first and the second", x.stop(8, 2), 4);
    }

    static void promise25FriendsWhoAreSentAwayAreNotThere() {
        LaughterIsMinted x = town(friends(0, 1, 1, 6), 1, 1, 1, 2);
        Check.due("who catches from two needs both", x.stop(1, 2), 2);
    }

    static void promise25StopChangesNothing() {
        Edges.stays(EdgesCatchingTest::chain, 2, x -> x.stop(1, 1));
        Edges.stays(EdgesCatchingTest::chain, -1, x -> x.stop(1, 0));
    }
}
