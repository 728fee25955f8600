/** The edges that promises 7 to 11 name, and those of JOKES and HEARERS in the Terms. */
public final class EdgesJokesTest {
    private static final int BIG = Edges.BIG, SMALL = Edges.SMALL;

    public static void main(String[] args) throws Exception {
        Edges.run(EdgesJokesTest.class, 7, 11);
    }

    // ---- joke

    static void promise07JokesAreNumberedFrom0To4() {
        LaughterIsMinted x = new LaughterIsMinted();
        for (int j = 0; j < 5; j++) {
            Check.due("there is none yet", x.told(j, 0), -5);
            Check.due("joke", x.joke(0, 0), j);
            Check.due("count", x.count(0), j + 1);
        }
    }

    static void promise07JokeTakesKinds0To5() {
        for (int kind = 0; kind <= 5; kind++) {
            LaughterIsMinted x = new LaughterIsMinted();
            Check.due("joke", x.joke(kind, 0), 0);
            Check.due("kind", x.told(0, 0), kind);
        }
    }

    static void promise07JokeRefusesKinds() {
        Edges.refused(-2, x -> x.joke(-1, 0), x -> x.joke(6, 0), x -> x.joke(BIG, 0), x -> x.joke(SMALL, 0));
    }

    static void promise07JokeTakesMore0To9() {
        for (int more = 0; more <= 9; more++) {
            LaughterIsMinted x = new LaughterIsMinted();
            Check.due("joke", x.joke(0, more), 0);
            Check.due("more", x.told(0, 1), more);
        }
    }

    static void promise07JokeRefusesMore() {
        Edges.refused(-2, x -> x.joke(0, -1), x -> x.joke(0, 10), x -> x.joke(0, BIG), x -> x.joke(0, SMALL));
    }

    static void promise07TheSixthJokeIsFull() {
        Edges.stays(Edges::crowd, -4, x -> x.joke(0, 0), x -> x.joke(5, 9));
    }

    static void promise07JokeIsBadAheadOfFull() {
        Edges.stays(Edges::crowd, -2, x -> x.joke(6, 0), x -> x.joke(0, 10), x -> x.joke(-1, -1));
    }

    static void promise07AJokeIsNotWornAsItComes() {
        LaughterIsMinted x = Edges.pair(2, 0, 0);
        x.tell(0, 0);
        x.joke(2, 0);
        Check.due("worn", x.told(1, 2), 0);
        Check.due("the other one", x.told(0, 2), 2);
    }

    static void promise07AJokeIsNotHeardAsItComes() {
        LaughterIsMinted x = Edges.pair(0, 0, 0);
        x.set(0, 3, 1);
        x.joke(0, 0);
        Check.due("heard", x.of(0, 3), 1);
        Check.due("yields", x.yields(1, 0), 20);
    }

    static void promise07AJokeBehindBackIsNotWornNorHeard() {
        LaughterIsMinted x = Edges.pair(0, 0, 0);
        x.image();
        x.joke(2, 5);
        x.tell(1, 0);
        x.back();
        Check.due("the same number", x.joke(0, 3), 1);
        Check.due("kind", x.told(1, 0), 0);
        Check.due("more", x.told(1, 1), 3);
        Check.due("worn", x.told(1, 2), 0);
        Check.due("heard", x.of(0, 3), 0);
    }

    // ---- told

    static void promise08ToldTakesWhat0To3() {
        LaughterIsMinted x = Edges.busy();
        int[] due = {4, 9, 2, 0};
        for (int what = 0; what <= 3; what++) {
            Check.due("what " + what, x.told(2, what), due[what]);
        }
    }

    static void promise08ToldRefusesWhat() {
        Edges.refused(-7, x -> x.told(0, -1), x -> x.told(0, 4), x -> x.told(2, BIG), x -> x.told(2, SMALL));
    }

    static void promise08ToldRefusesJokesThatAreNotThere() {
        Edges.refused(-5, x -> x.told(-1, 0), x -> x.told(3, 0), x -> x.told(BIG, 0), x -> x.told(SMALL, 0));
        Edges.stays(Edges::empty, -5, x -> x.told(0, 0));
        Edges.stays(Edges::crowd, -5, x -> x.told(5, 0));
        Check.due("the last of all places", Edges.crowd().told(4, 0), 4);
    }

    static void promise08TheJokeIsRefusedAheadOfWhat() {
        Edges.refused(-5, x -> x.told(3, 4), x -> x.told(-1, -1));
    }

    static void promise08ToldChangesNothing() {
        Edges.stays(Edges::busy, 1, x -> x.told(0, 2), x -> x.told(1, 0), x -> x.told(0, 3));
    }

    static void promise08WornIs99AtMost() {
        LaughterIsMinted x = Edges.pair(0, 0, 0);
        for (int worn = 0; worn <= 99; worn++) {
            Check.due("worn", x.told(0, 2), worn);
            x.tell(0, 0);
        }
        Check.due("worn", x.told(0, 2), 99);
    }

    static void promise08OnOfEachKind() {
        int[] at0 = {1, 2, 1, 2, 0, 1};
        int[] at9 = {1, 2, 1, 2, 0, 4};
        for (int kind = 0; kind <= 5; kind++) {
            Check.due("more 0", Edges.pair(kind, 0, 0).told(0, 3), at0[kind]);
            Check.due("more 9", Edges.pair(kind, 9, 0).told(0, 3), at9[kind]);
        }
    }

    static void promise08BorrowedOnIsMoreBy3Cut() {
        int[] due = {1, 1, 1, 2, 2, 2, 3, 3, 3, 4};
        for (int more = 0; more <= 9; more++) {
            Check.due("more " + more, Edges.pair(5, more, 0).told(0, 3), due[more]);
        }
    }

    // ---- hearer

    static void promise09HearersAreNumberedFrom0To5() {
        LaughterIsMinted x = new LaughterIsMinted();
        for (int h = 0; h < 6; h++) {
            Check.due("there is none yet", x.of(h, 0), -5);
            Check.due("hearer", x.hearer(0, 1), h);
            Check.due("count", x.count(1), h + 1);
        }
    }

    static void promise09HearerTakesHumours0To9() {
        for (int humour = 0; humour <= 9; humour++) {
            LaughterIsMinted x = new LaughterIsMinted();
            Check.due("hearer", x.hearer(humour, 1), 0);
            Check.due("humour", x.of(0, 0), humour);
        }
    }

    static void promise09HearerRefusesHumours() {
        Edges.refused(-2, x -> x.hearer(-1, 1), x -> x.hearer(10, 1), x -> x.hearer(BIG, 1), x -> x.hearer(SMALL, 1));
    }

    static void promise09HearerTakesCatches1To9() {
        for (int from = 1; from <= 9; from++) {
            LaughterIsMinted x = new LaughterIsMinted();
            Check.due("hearer", x.hearer(0, from), 0);
            Check.due("catches", x.of(0, 4), from);
        }
    }

    static void promise09HearerRefusesCatches() {
        Edges.refused(-2, x -> x.hearer(0, 0), x -> x.hearer(0, 10), x -> x.hearer(0, -1), x -> x.hearer(0, BIG));
    }

    static void promise09TheSeventhHearerIsFull() {
        Edges.stays(Edges::crowd, -4, x -> x.hearer(0, 1), x -> x.hearer(9, 9));
    }

    static void promise09HearerIsBadAheadOfFull() {
        Edges.stays(Edges::crowd, -2, x -> x.hearer(10, 1), x -> x.hearer(0, 0), x -> x.hearer(-1, 10));
    }

    static void promise09OneComesWithoutPurseFriendsOrHeard() {
        LaughterIsMinted x = Edges.busy();
        Check.due("hearer", x.hearer(7, 3), 3);
        int[] due = {7, 0, 0, 0, 3};
        for (int what = 0; what < 5; what++) {
            Check.due("of " + what, x.of(3, what), due[what]);
        }
    }

    static void promise09OneBehindBackComesWithoutPurseFriendsOrHeard() {
        LaughterIsMinted x = Edges.pair(0, 0, 0);
        x.image();
        x.hearer(9, 9);
        x.tell(0, 1);
        x.set(1, 2, 1);
        x.back();
        Check.due("the same number", x.hearer(2, 4), 1);
        int[] due = {2, 0, 0, 0, 4};
        for (int what = 0; what < 5; what++) {
            Check.due("of " + what, x.of(1, what), due[what]);
        }
    }

    // ---- set

    private static void taken(int what, int... all) {
        LaughterIsMinted x = Edges.busy();
        int was = x.of(1, what);
        for (int v : all) {
            Check.due("what it was", x.set(1, what, v), was);
            Check.due("what it is", x.of(1, what), v);
            was = v;
        }
    }

    static void promise10SetTakesHumours0To9() {
        taken(0, 0, 9, 1, 8);
    }

    static void promise10SetRefusesHumours() {
        Edges.refused(-7, x -> x.set(1, 0, -1), x -> x.set(1, 0, 10), x -> x.set(1, 0, SMALL), x -> x.set(1, 0, BIG));
    }

    static void promise10SetTakesPurses0To9999() {
        taken(1, 0, 9999, 1, 9998);
    }

    static void promise10SetRefusesPurses() {
        Edges.refused(-7, x -> x.set(1, 1, -1), x -> x.set(1, 1, 10000), x -> x.set(1, 1, SMALL), x -> x.set(1, 1, BIG));
    }

    static void promise10SetTakesAllOthersAsFriends() {
        taken(2, 0, 5, 1, 4);
        LaughterIsMinted x = Edges.crowd();
        for (int h = 0; h < 6; h++) {
            Check.due("none", x.set(h, 2, 63 & ~(1 << h)), 0);
            Check.due("all others", x.of(h, 2), 63 & ~(1 << h));
        }
    }

    static void promise10SetRefusesOneselfAsAFriend() {
        Edges.refused(-7, x -> x.set(0, 2, 1), x -> x.set(1, 2, 2), x -> x.set(2, 2, 7), x -> x.set(1, 2, 7));
        Edges.stays(Edges::crowd, -7, x -> x.set(5, 2, 32), x -> x.set(5, 2, 63));
    }

    static void promise10SetRefusesFriendsWhoAreNotThere() {
        Edges.refused(-7, x -> x.set(0, 2, 8), x -> x.set(0, 2, 6 + 8), x -> x.set(0, 2, 32), x -> x.set(0, 2, 64));
        Edges.refused(-7, x -> x.set(0, 2, -2), x -> x.set(0, 2, SMALL), x -> x.set(0, 2, BIG - 1));
        Edges.stays(Edges::crowd, -7, x -> x.set(0, 2, 64), x -> x.set(0, 2, 128 - 2));
    }

    static void promise10SetTakesAllJokesAsHeard() {
        taken(3, 0, 7, 1, 4);
        LaughterIsMinted x = Edges.crowd();
        Check.due("none", x.set(5, 3, 31), 0);
        Check.due("all", x.of(5, 3), 31);
    }

    static void promise10SetRefusesHeardOfJokesThatAreNotThere() {
        Edges.refused(-7, x -> x.set(0, 3, 8), x -> x.set(0, 3, 15), x -> x.set(0, 3, -1), x -> x.set(0, 3, SMALL));
        Edges.stays(Edges::crowd, -7, x -> x.set(0, 3, 32), x -> x.set(0, 3, BIG));
    }

    static void promise10SetTakesCatches1To9() {
        taken(4, 1, 9, 2, 8);
    }

    static void promise10SetRefusesCatches() {
        Edges.refused(-7, x -> x.set(1, 4, 0), x -> x.set(1, 4, 10), x -> x.set(1, 4, -1), x -> x.set(1, 4, BIG));
    }

    static void promise10SetRefusesWhat() {
        Edges.refused(-7, x -> x.set(1, -1, 1), x -> x.set(1, 5, 1), x -> x.set(1, SMALL, 1), x -> x.set(1, BIG, 1));
    }

    static void promise10SetRefusesHearersWhoAreNotThere() {
        Edges.refused(-5, x -> x.set(-1, 0, 1), x -> x.set(3, 0, 1), x -> x.set(SMALL, 0, 1), x -> x.set(BIG, 0, 1));
        Edges.stays(Edges::empty, -5, x -> x.set(0, 0, 0));
        Edges.stays(Edges::crowd, -5, x -> x.set(6, 0, 0));
    }

    static void promise10TheHearerIsRefusedAheadOfWhatAndV() {
        Edges.refused(-5, x -> x.set(3, 5, 1), x -> x.set(3, 0, 10), x -> x.set(-1, -1, -1));
    }

    static void promise10FriendsNeedNotBeFriendsOfOne() {
        LaughterIsMinted x = Edges.crowd();
        x.set(0, 2, 2);
        Check.due("not the other way", x.of(1, 2), 0);
    }

    // ---- of

    static void promise11OfTakesWhat0To4() {
        LaughterIsMinted x = Edges.busy();
        int[] due = {5, 49, 5, 4, 2};
        for (int what = 0; what <= 4; what++) {
            Check.due("what " + what, x.of(1, what), due[what]);
        }
    }

    static void promise11OfRefusesWhat() {
        Edges.refused(-7, x -> x.of(1, -1), x -> x.of(1, 5), x -> x.of(1, SMALL), x -> x.of(1, BIG));
    }

    static void promise11OfRefusesHearersWhoAreNotThere() {
        Edges.refused(-5, x -> x.of(-1, 0), x -> x.of(3, 0), x -> x.of(SMALL, 0), x -> x.of(BIG, 0));
        Edges.stays(Edges::empty, -5, x -> x.of(0, 0));
        Edges.stays(Edges::crowd, -5, x -> x.of(6, 0));
        Check.due("the last of all places", Edges.crowd().of(5, 0), 5);
    }

    static void promise11TheHearerIsRefusedAheadOfWhat() {
        Edges.refused(-5, x -> x.of(3, 5), x -> x.of(-1, -1));
    }

    static void promise11OfChangesNothing() {
        Edges.stays(Edges::busy, 5, x -> x.of(1, 0), x -> x.of(1, 2));
    }
}
