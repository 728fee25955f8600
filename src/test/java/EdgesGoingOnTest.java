/** The edges that promises 26 to 29 name. */
public final class EdgesGoingOnTest {
    private static final int BIG = Edges.BIG, SMALL = Edges.SMALL;

    public static void main(String[] args) throws Exception {
        Edges.run(EdgesGoingOnTest.class, 26, 29);
    }

    /** All six: each tells it on to the next one, the last one to nobody. */
    private static LaughterIsMinted chain() {
        return Edges.town(0, 0, 2, 4, 8, 16, 32, 0);
    }

    // ---- spread

    static void promise26SpreadTakesDays0To20() {
        LaughterIsMinted x = chain();
        for (int days = 0; days <= 20; days++) {
            Check.due("days " + days, x.spread(0, 1, days), (2 << Math.min(5, days)) - 1);
        }
    }

    static void promise26SpreadRefusesDays() {
        Edges.refused(-7, x -> x.spread(0, 1, -1), x -> x.spread(0, 1, 21), x -> x.spread(0, 1, BIG),
            x -> x.spread(0, 1, SMALL));
    }

    static void promise26SpreadTakesNobodyToAll() {
        LaughterIsMinted x = chain();
        for (int first = 0; first <= 63; first++) {
            Check.due("first", x.spread(0, first, 0), first);
        }
        Check.due("nobody", x.spread(0, 0, 20), 0);
        Check.due("all", x.spread(0, 63, 20), 63);
    }

    static void promise26SpreadRefusesHearersWhoAreNotThere() {
        Edges.refused(-7, x -> x.spread(0, 8, 0), x -> x.spread(0, 15, 0), x -> x.spread(0, -1, 0),
            x -> x.spread(0, SMALL, 0), x -> x.spread(0, BIG, 0));
        Edges.stays(Edges::jokesAlone, -7, x -> x.spread(0, 1, 0));
        Edges.stays(Edges::crowd, -7, x -> x.spread(0, 64, 0));
    }

    static void promise26SpreadRefusesJokesAheadOfAllElse() {
        Edges.refused(-5, x -> x.spread(-1, 1, 1), x -> x.spread(3, 1, 1), x -> x.spread(3, 8, 21),
            x -> x.spread(SMALL, -1, -1));
        Edges.stays(Edges::empty, -5, x -> x.spread(0, 0, 0));
        Edges.stays(Edges::crowd, -5, x -> x.spread(5, 0, 0));
        Check.due("the last of all places", Edges.crowd().spread(4, 32, 20), 32);
    }

    static void promise26ThereIsNobody() {
        Edges.stays(Edges::jokesAlone, 0, x -> x.spread(0, 0, 0), x -> x.spread(0, 0, 20));
    }

    static void promise26ToAsManyFriendsAsTheKindSays() {
        int[] due = {3, 7, 3, 7, 1};
        for (int kind = 0; kind < 5; kind++) {
            LaughterIsMinted x = Edges.town(kind, 9, 62, 0, 0, 0, 0, 0);
            Check.due("kind " + kind, x.spread(0, 1, 1), due[kind]);
        }
        for (int more = 0; more <= 9; more++) {
            LaughterIsMinted x = Edges.town(5, more, 62, 0, 0, 0, 0, 0);
            Check.due("borrowed " + more, x.spread(0, 1, 1), (2 << 1 + more / 3) - 1);
        }
    }

    static void promise26AChestnutGoesToNobody() {
        Edges.stays(() -> Edges.town(4, 9, 62, 61, 59, 55, 47, 31), 9, x -> x.spread(0, 9, 20));
    }

    static void promise26FewerFriendsThanTheKindSays() {
        Check.due("one of two", Edges.town(1, 0, 2, 0, 0).spread(0, 1, 1), 3);
        Check.due("one of four", Edges.town(5, 9, 4, 0, 0).spread(0, 1, 20), 5);
    }

    static void promise26WhoGetsItInADayTellsItOnTheNextDay() {
        Check.due("one day", chain().spread(0, 1, 1), 3);
        Check.due("two who had it", chain().spread(0, 9, 1), 27);
    }

    static void promise26ToTheFirstWhoHaveItNotByThen() {
        Check.due("the second tells the next one", Edges.town(0, 0, 28, 28, 0, 0, 0).spread(0, 3, 1), 15);
        Check.due("the friend who has it is passed over", Edges.town(0, 0, 6, 0, 0).spread(0, 3, 1), 7);
        Check.due("of two each", Edges.town(1, 0, 60, 60, 0, 0, 0, 0).spread(0, 3, 1), 63);
    }

    static void promise26SpreadChangesNothing() {
        Edges.stays(EdgesGoingOnTest::chain, 63, x -> x.spread(0, 1, 20));
        Edges.stays(Edges::busy, 3, x -> x.spread(0, 1, 1));
    }

    static void promise26HeardDoesNotMatter() {
        LaughterIsMinted x = chain();
        x.set(1, 3, 1);
        Check.due("who heard it may get it", x.spread(0, 1, 1), 3);
        Check.due("who heard it has it not", x.spread(0, 0, 20), 0);
    }

    // ---- through

    static void promise27ThroughIs0DaysForOneAlone() {
        Edges.stays(() -> Edges.town(4, 0, 0), 0, x -> x.through(0, 0));
    }

    static void promise27ThroughTakesAsLongAsCanBe() {
        LaughterIsMinted x = chain();
        Check.due("five days", x.through(0, 0), 5);
        Check.due("from the second", x.through(0, 1), -1);
        LaughterIsMinted y = Edges.town(0, 0, 62, 0, 0, 0, 0, 0);
        Check.due("one a day", y.through(0, 0), 5);
        LaughterIsMinted z = Edges.town(0, 0, 2, 1);
        Check.due("one day", z.through(0, 1), 1);
    }

    static void promise27NotByThen() {
        Edges.stays(EdgesGoingOnTest::chain, -1, x -> x.through(0, 5));
        Edges.stays(() -> Edges.town(4, 0, 2, 1), -1, x -> x.through(0, 0));
    }

    static void promise27ThroughRefusesJokesThenHearers() {
        Edges.refused(-5, x -> x.through(-1, 0), x -> x.through(3, 0), x -> x.through(3, 3), x -> x.through(SMALL, -1));
        Edges.refused(-6, x -> x.through(0, -1), x -> x.through(0, 3), x -> x.through(2, BIG), x -> x.through(2, SMALL));
        Edges.stays(Edges::empty, -5, x -> x.through(0, 0));
        Edges.stays(Edges::jokesAlone, -6, x -> x.through(0, 0));
        Edges.stays(Edges::crowd, -5, x -> x.through(5, 0));
        Edges.stays(Edges::crowd, -6, x -> x.through(0, 6));
        Edges.stays(Edges::crowd, -1, x -> x.through(4, 5));
    }

    static void promise27ThroughChangesNothing() {
        Edges.stays(EdgesGoingOnTest::chain, 5, x -> x.through(0, 0));
    }

    // ---- origin

    static void promise28OriginTakesDays0To20() {
        LaughterIsMinted x = chain();
        for (int days = 0; days <= 20; days++) {
            Check.due("days " + days, x.origin(0, (2 << Math.min(5, days)) - 1, days), 1);
        }
    }

    static void promise28OriginRefusesDays() {
        Edges.refused(-7, x -> x.origin(0, 1, -1), x -> x.origin(0, 1, 21), x -> x.origin(0, 1, BIG),
            x -> x.origin(0, 1, SMALL));
    }

    static void promise28OriginTakesNobodyToAll() {
        LaughterIsMinted x = chain();
        Check.due("nobody has it", x.origin(0, 0, 0), 0);
        Check.due("nobody has it", x.origin(0, 0, 20), 0);
        Check.due("all have it", x.origin(0, 63, 20), 1);
        Check.due("all have it", x.origin(0, 63, 4), 0);
        for (int h = 0; h < 6; h++) {
            Check.due("one", x.origin(0, 1 << h, 0), 1 << h);
        }
    }

    static void promise28OriginRefusesHearersWhoAreNotThere() {
        Edges.refused(-7, x -> x.origin(0, 8, 0), x -> x.origin(0, 15, 0), x -> x.origin(0, -1, 0),
            x -> x.origin(0, SMALL, 0));
        Edges.stays(Edges::jokesAlone, -7, x -> x.origin(0, 1, 0));
        Edges.stays(Edges::crowd, -7, x -> x.origin(0, 64, 0));
    }

    static void promise28OriginRefusesJokesAheadOfAllElse() {
        Edges.refused(-5, x -> x.origin(-1, 1, 1), x -> x.origin(3, 1, 1), x -> x.origin(3, 8, 21));
        Edges.stays(Edges::empty, -5, x -> x.origin(0, 0, 0));
        Edges.stays(Edges::crowd, -5, x -> x.origin(5, 0, 0));
    }

    static void promise28ThereIsNobody() {
        Edges.stays(Edges::jokesAlone, 0, x -> x.origin(0, 0, 0), x -> x.origin(0, 0, 20));
    }

    static void promise28JustThese() {
        LaughterIsMinted x = Edges.town(0, 0, 2, 1, 2);
        Check.due("two of three", x.origin(0, 3, 1), 3);
        Check.due("not one less", x.origin(0, 1, 1), 0);
        Check.due("not one more", x.origin(0, 7, 1), 0);
        Check.due("the third", x.origin(0, 7, 2), 4);
        LaughterIsMinted y = Edges.town(0, 0, 62, 61, 59, 55, 47, 31);
        Check.due("each of all", y.origin(0, 63, 5), 63);
    }

    static void promise28OriginChangesNothing() {
        Edges.stays(EdgesGoingOnTest::chain, 1, x -> x.origin(0, 63, 20));
    }

    // ---- furthest

    static void promise29FurthestTakesDays0To20() {
        LaughterIsMinted x = Edges.town(0, 0, 0, 1, 2, 4, 8, 16);
        Check.due("at once each has it alone", x.furthest(0, 0, 0), 0);
        Check.due("one", x.furthest(0, 0, 1), 1);
        for (int days = 1; days <= 20; days++) {
            Check.due("who", x.furthest(0, days, 0), Math.min(5, days));
            Check.due("how many", x.furthest(0, days, 1), Math.min(6, days + 1));
        }
    }

    static void promise29FurthestRefusesDays() {
        Edges.refused(-7, x -> x.furthest(0, -1, 0), x -> x.furthest(0, 21, 0), x -> x.furthest(0, BIG, 1),
            x -> x.furthest(0, SMALL, 1));
    }

    static void promise29FurthestRefusesWhat() {
        Edges.refused(-7, x -> x.furthest(0, 0, -1), x -> x.furthest(0, 0, 2), x -> x.furthest(0, 20, BIG));
    }

    static void promise29ThereAreNone() {
        Edges.stays(Edges::jokesAlone, -1, x -> x.furthest(0, 0, 0), x -> x.furthest(0, 20, 1));
    }

    static void promise29FurthestRefusesAheadOfNone() {
        Edges.stays(Edges::empty, -5, x -> x.furthest(0, 0, 0));
        Edges.stays(Edges::jokesAlone, -7, x -> x.furthest(0, 21, 0), x -> x.furthest(0, 0, 2));
    }

    static void promise29FurthestRefusesJokesAheadOfAllElse() {
        Edges.refused(-5, x -> x.furthest(-1, 0, 0), x -> x.furthest(3, 0, 0), x -> x.furthest(3, 21, 2),
            x -> x.furthest(SMALL, -1, -1));
        Edges.stays(Edges::crowd, -5, x -> x.furthest(5, 0, 0));
    }

    static void promise29TheFirstOfLikeOnes() {
        LaughterIsMinted x = Edges.town(0, 0, 0, 4, 2, 1);
        Check.due("the second, the third, the fourth alike", x.furthest(0, 20, 0), 1);
        Check.due("how many", x.furthest(0, 20, 1), 2);
    }

    static void promise29FurthestChangesNothing() {
        Edges.stays(EdgesGoingOnTest::chain, 0, x -> x.furthest(0, 20, 0));
        Edges.stays(EdgesGoingOnTest::chain, 6, x -> x.furthest(0, 20, 1));
    }
}
