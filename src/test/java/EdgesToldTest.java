import java.util.function.Supplier;

/** The edges that promises 33 to 41 name. */
public final class EdgesToldTest {
    private static final int BIG = Edges.BIG, SMALL = Edges.SMALL;
    private static final long NO = Edges.NO;

    public static void main(String[] args) throws Exception {
        Edges.run(EdgesToldTest.class, 33, 41);
    }

    /** What asks of a SHEET and a HEARER. */
    interface Asked {
        long of(LaughterIsMinted x, int s, int h);
    }

    /** In busy() SHEETS 0, 2 tell as many as there are JOKES, 1 tells one more, 3 is missing. */
    private static LaughterIsMinted oneFewer() {
        LaughterIsMinted x = Edges.busy();
        Check.sheet(x, 0, 0, 13, 18);
        return x;
    }

    private static LaughterIsMinted sheetsAlone() {
        LaughterIsMinted x = new LaughterIsMinted();
        x.sheet(0, 0, 0);
        x.sheet(1, 1, 1);
        return x;
    }

    /** Refused by SHEETS that are not there: -1, 4, and these ahead of a HEARER who isn't there. */
    private static void refusesSheets(long bad, long missing, Asked asked) {
        Edges.refused(bad, x -> asked.of(x, -1, 0), x -> asked.of(x, 4, 0), x -> asked.of(x, SMALL, 0),
            x -> asked.of(x, BIG, 0), x -> asked.of(x, 4, 3), x -> asked.of(x, -1, -1));
        Edges.refused(missing, x -> asked.of(x, 3, 0), x -> asked.of(x, 3, 3), x -> asked.of(x, 3, -1));
        Edges.stays(Edges::empty, missing, x -> asked.of(x, 0, 0));
    }

    /** Refused as it tells one more, one fewer; this ahead of a HEARER who isn't there. */
    private static void refusesSizes(long bad, Asked asked) {
        Edges.refused(bad, x -> asked.of(x, 1, 0), x -> asked.of(x, 1, 3));
        Edges.stays(EdgesToldTest::oneFewer, bad, x -> asked.of(x, 0, 0), x -> asked.of(x, 0, -1));
        Edges.stays(EdgesToldTest::sheetsAlone, bad, x -> asked.of(x, 1, 0));
    }

    private static void refusesHearers(long none, Asked asked) {
        Edges.refused(none, x -> asked.of(x, 0, -1), x -> asked.of(x, 0, 3), x -> asked.of(x, 2, SMALL),
            x -> asked.of(x, 2, BIG));
        Edges.stays(EdgesToldTest::sheetsAlone, none, x -> asked.of(x, 0, 0));
    }

    /** A JOKE, a PUN with MORE 4, a YARN with MORE 2, of one of HUMOUR 5: SHEET 0 tells what they yield. */
    private static LaughterIsMinted three() {
        LaughterIsMinted x = new LaughterIsMinted();
        x.joke(0, 0);
        x.joke(1, 4);
        x.joke(2, 2);
        x.hearer(5, 1);
        Check.sheet(x, 0, 0, 35, 21, 39);
        return x;
    }

    /** A HEARER, no JOKES, an empty SHEET. */
    private static LaughterIsMinted noJokes() {
        LaughterIsMinted x = new LaughterIsMinted();
        x.hearer(3, 1);
        x.sheet(0, 2, 0);
        return x;
    }

    /** All places taken; SHEET 0 is what all JOKES yield of the last HEARER. */
    private static LaughterIsMinted full() {
        LaughterIsMinted x = Edges.crowd();
        for (int t = 1; t < 6; t++) {
            Check.read(x, "yields 20+humour*" + (t < 5 ? t : 3) + ";fades 0;minds 0;");
        }
        x.film(0, 5);
        return x;
    }

    // ---- judge

    static void promise33JudgeRefusesSheets() {
        refusesSheets(-2, -11, (x, s, h) -> x.judge(s, h));
    }

    static void promise33JudgeRefusesASheetThatTellsNotAsMany() {
        refusesSizes(-2, (x, s, h) -> x.judge(s, h));
    }

    static void promise33JudgeRefusesHearers() {
        refusesHearers(-6, (x, s, h) -> x.judge(s, h));
    }

    static void promise33TheFirstThatIsOtherwise() {
        LaughterIsMinted x = three();
        for (int i = 2; i >= 0; i--) {
            x.cell(0, i, 0);
            Check.due("otherwise", x.judge(0, 0), i);
        }
    }

    static void promise33NoneIsOtherwise() {
        Edges.stays(EdgesToldTest::three, -1, x -> x.judge(0, 0));
        Edges.stays(EdgesToldTest::full, -1, x -> x.judge(0, 5));
        Edges.stays(EdgesToldTest::noJokes, -1, x -> x.judge(0, 0));
    }

    static void promise33OneMoreOrLessIsOtherwise() {
        LaughterIsMinted x = full();
        x.cell(0, 4, 44);
        Check.due("one more", x.judge(0, 5), 4);
        x.cell(0, 4, 42);
        Check.due("one less", x.judge(0, 5), 4);
        x.cell(0, 4, 43);
        Check.due("just so", x.judge(0, 5), -1);
    }

    static void promise33EachSortOfNumbers() {
        LaughterIsMinted x = three();
        int[] due = {-1, 0, 0};
        for (int sort = 0; sort < 3; sort++) {
            Check.sheet(x, 1, sort, 256 + 35, 21, 39);
            Check.due("sort " + sort, x.judge(1, 0), due[sort]);
            Check.sheet(x, 1, sort, 65536 + 35, 21, 39);
            Check.due("sort " + sort, x.judge(1, 0), sort < 2 ? -1 : 0);
        }
    }

    // ---- humours

    static void promise34HumoursRefusesSheets() {
        refusesSheets(-2, -11, (x, s, h) -> x.humours(s, h));
    }

    static void promise34HumoursRefusesASheetThatTellsNotAsMany() {
        refusesSizes(-2, (x, s, h) -> x.humours(s, h));
    }

    static void promise34HumoursRefusesHearers() {
        refusesHearers(-6, (x, s, h) -> x.humours(s, h));
    }

    static void promise34Humours0To9() {
        LaughterIsMinted x = three();
        for (int humour = 0; humour <= 9; humour++) {
            int said = 20 + 3 * humour;
            Check.sheet(x, 0, 0, said, said / 2 + 4, said + 4);
            Check.due("humour " + humour, x.humours(0, 0), 1 << humour);
        }
        Check.sheet(x, 0, 0, 17, 12, 21);
        Check.due("below 0", x.humours(0, 0), 0);
        Check.sheet(x, 0, 0, 50, 29, 54);
        Check.due("above 9", x.humours(0, 0), 0);
    }

    static void promise34AllHumours() {
        Edges.stays(EdgesToldTest::noJokes, 1023, x -> x.humours(0, 0));
        LaughterIsMinted x = three();
        Edges.law(x, "35", "0", "0");
        Check.due("all alike", x.humours(0, 0), 1023);
    }

    static void promise34HumoursChangesNothing() {
        Edges.stays(EdgesToldTest::three, 32, x -> x.humours(0, 0));
        Edges.stays(EdgesToldTest::full, 32, x -> x.humours(0, 5));
    }

    // ---- heards

    static void promise35HeardsRefusesSheets() {
        refusesSheets(-2, -11, (x, s, h) -> x.heards(s, h, 0));
        refusesSheets(-2, -11, (x, s, h) -> x.heards(s, h, 3));
    }

    static void promise35HeardsRefusesASheetThatTellsNotAsMany() {
        refusesSizes(-2, (x, s, h) -> x.heards(s, h, 0));
        refusesSizes(-2, (x, s, h) -> x.heards(s, h, 3));
    }

    static void promise35HeardsRefusesHearers() {
        refusesHearers(-6, (x, s, h) -> x.heards(s, h, 0));
        refusesHearers(-6, (x, s, h) -> x.heards(s, h, 3));
    }

    static void promise35HeardsRefusesWhatBehindAllElse() {
        Edges.refused(-7, x -> x.heards(0, 0, -1), x -> x.heards(0, 0, 3), x -> x.heards(2, 2, BIG),
            x -> x.heards(2, 2, SMALL));
        Edges.refused(-6, x -> x.heards(0, 3, 3));
        Edges.refused(-11, x -> x.heards(3, 0, -1));
        Edges.refused(-2, x -> x.heards(1, 0, 3), x -> x.heards(4, 0, 3));
    }

    static void promise35OneSetAlone() {
        LaughterIsMinted x = three();
        int[] fresh = {35, 21, 39};
        int[] stale = {17, 12, 21};
        for (int heard = 0; heard < 8; heard++) {
            for (int j = 0; j < 3; j++) {
                x.cell(0, j, (heard >> j & 1) == 1 ? stale[j] : fresh[j]);
            }
            Check.due("how many", x.heards(0, 0, 0), 1);
            Check.due("in all", x.heards(0, 0, 1), heard);
            Check.due("in none", x.heards(0, 0, 2), 7 & ~heard);
        }
    }

    static void promise35ThereAreNone() {
        LaughterIsMinted x = three();
        x.cell(0, 0, 36);
        Check.due("how many", x.heards(0, 0, 0), 0);
        Check.due("in all", x.heards(0, 0, 1), -1);
        Check.due("in none", x.heards(0, 0, 2), -1);
    }

    static void promise35AllSets() {
        Supplier<LaughterIsMinted> alike = () -> {
            LaughterIsMinted y = new LaughterIsMinted();
            for (int j = 0; j < 5; j++) {
                y.joke(0, 0);
            }
            y.hearer(0, 1);
            Edges.law(y, "0", "0", "0");
            y.sheet(0, 2, 5);
            return y;
        };
        Edges.stays(alike, 32, y -> y.heards(0, 0, 0));
        Edges.stays(alike, 0, y -> y.heards(0, 0, 1), y -> y.heards(0, 0, 2));
    }

    static void promise35TheEmptySetOfNoJokes() {
        Edges.stays(EdgesToldTest::noJokes, 1, x -> x.heards(0, 0, 0));
        Edges.stays(EdgesToldTest::noJokes, 0, x -> x.heards(0, 0, 1), x -> x.heards(0, 0, 2));
    }

    static void promise35JokesInAllAndInNone() {
        LaughterIsMinted x = new LaughterIsMinted();
        for (int j = 0; j < 5; j++) {
            x.joke(0, j);
        }
        x.hearer(0, 1);
        Edges.law(x, "(more=1)*20+(more=4)*20", "0", "0");
        Check.sheet(x, 0, 0, 0, 10, 0, 0, 20);
        Check.due("how many", x.heards(0, 0, 0), 8);
        Check.due("in all", x.heards(0, 0, 1), 2);
        Check.due("in none", x.heards(0, 0, 2), 16);
    }

    static void promise35HeardsChangesNothing() {
        Edges.stays(EdgesToldTest::three, 1, x -> x.heards(0, 0, 0));
        Edges.stays(EdgesToldTest::three, 7, x -> x.heards(0, 0, 2));
        Edges.stays(EdgesToldTest::full, 0, x -> x.heards(0, 5, 1));
    }

    // ---- kinds

    static void promise36KindsRefusesSheets() {
        refusesSheets(-2, -11, (x, s, h) -> x.kinds(s, h, 0));
        refusesSheets(-2, -11, (x, s, h) -> x.kinds(s, h, 39));
    }

    static void promise36KindsRefusesASheetThatTellsNotAsMany() {
        refusesSizes(-2, (x, s, h) -> x.kinds(s, h, 0));
        refusesSizes(-2, (x, s, h) -> x.kinds(s, h, 39));
    }

    static void promise36KindsRefusesHearers() {
        refusesHearers(-6, (x, s, h) -> x.kinds(s, h, 0));
        refusesHearers(-6, (x, s, h) -> x.kinds(s, h, 39));
    }

    static void promise36KindsRefusesJokesBehindTheHearer() {
        Edges.refused(-5, x -> x.kinds(0, 0, 30), x -> x.kinds(0, 0, 31), x -> x.kinds(0, 0, -10), x -> x.kinds(0, 0, -1),
            x -> x.kinds(0, 0, BIG), x -> x.kinds(0, 0, SMALL));
        Edges.refused(-6, x -> x.kinds(0, 3, 30));
        Edges.stays(EdgesToldTest::noJokes, -5, x -> x.kinds(0, 0, 0));
        Edges.stays(EdgesToldTest::full, -5, x -> x.kinds(0, 5, 50), x -> x.kinds(0, 5, 51));
    }

    static void promise36KindsRefusesSortsBehindTheJoke() {
        Edges.refused(-7, x -> x.kinds(0, 0, 2), x -> x.kinds(0, 0, 9), x -> x.kinds(0, 0, 12), x -> x.kinds(0, 0, 22),
            x -> x.kinds(0, 0, 29));
        Edges.refused(-5, x -> x.kinds(0, 0, 32), x -> x.kinds(0, 0, 39));
    }

    static void promise36Kinds0To5() {
        int[] yields = {20, 19, 38, 16, 38, 18};
        int[] due = {1, 2, 4 + 16, 8, 4 + 16, 32};
        for (int kind = 0; kind <= 5; kind++) {
            LaughterIsMinted x = Edges.pair(kind, 9, 0);
            Check.sheet(x, 0, 0, yields[kind]);
            Check.due("kind " + kind, x.kinds(0, 0, 0), due[kind]);
        }
    }

    static void promise36More0To9() {
        LaughterIsMinted x = Edges.pair(2, 5, 0);
        for (int more = 0; more <= 9; more++) {
            Check.sheet(x, 0, 0, 20 + 2 * more);
            Check.due("more " + more, x.kinds(0, 0, 1), 1 << more);
        }
        Check.sheet(x, 0, 0, 40);
        Check.due("above 9", x.kinds(0, 0, 1), 0);
        Check.sheet(x, 0, 0, 18);
        Check.due("below 0", x.kinds(0, 0, 1), 0);
    }

    static void promise36AllKindsAndAllMore() {
        LaughterIsMinted x = Edges.pair(0, 0, 0);
        Edges.law(x, "0", "0", "0");
        Check.sheet(x, 0, 0, 0);
        Check.due("all kinds", x.kinds(0, 0, 0), 63);
        Check.due("all more", x.kinds(0, 0, 1), 1023);
        Check.sheet(x, 0, 0, 1);
        Check.due("no kind", x.kinds(0, 0, 0), 0);
        Check.due("no more", x.kinds(0, 0, 1), 0);
    }

    static void promise36TheLastJokeOfAllPlaces() {
        LaughterIsMinted x = full();
        Check.due("a yarn, or a chestnut", x.kinds(0, 5, 40), 4 + 16);
        Check.due("more 4", x.kinds(0, 5, 41), 16);
    }

    static void promise36AnotherJokeIsOtherwise() {
        LaughterIsMinted x = three();
        x.cell(0, 2, 0);
        Check.due("no kind", x.kinds(0, 0, 0), 0);
        Check.due("no more", x.kinds(0, 0, 11), 0);
    }

    static void promise36KindsChangesNothing() {
        Edges.stays(EdgesToldTest::three, 16, x -> x.kinds(0, 0, 11));
        Edges.stays(EdgesToldTest::three, 2, x -> x.kinds(0, 0, 10));
    }

    // ---- wear

    static void promise37WearRefusesSheets() {
        refusesSheets(-2, -11, (x, s, h) -> x.wear(s, h, 0));
        refusesSheets(-2, -11, (x, s, h) -> x.wear(s, h, 39));
    }

    static void promise37WearRefusesASheetThatTellsNotAsMany() {
        refusesSizes(-2, (x, s, h) -> x.wear(s, h, 0));
        refusesSizes(-2, (x, s, h) -> x.wear(s, h, 39));
    }

    static void promise37WearRefusesHearers() {
        refusesHearers(-6, (x, s, h) -> x.wear(s, h, 0));
        refusesHearers(-6, (x, s, h) -> x.wear(s, h, 39));
    }

    static void promise37WearRefusesJokesBehindTheHearer() {
        Edges.refused(-5, x -> x.wear(0, 0, 30), x -> x.wear(0, 0, 31), x -> x.wear(0, 0, -10), x -> x.wear(0, 0, -1),
            x -> x.wear(0, 0, BIG), x -> x.wear(0, 0, SMALL));
        Edges.refused(-6, x -> x.wear(0, 3, 30));
        Edges.stays(EdgesToldTest::noJokes, -5, x -> x.wear(0, 0, 0));
        Edges.stays(EdgesToldTest::full, -5, x -> x.wear(0, 5, 50), x -> x.wear(0, 5, 51));
    }

    static void promise37WearRefusesWhatBehindTheJoke() {
        Edges.refused(-7, x -> x.wear(0, 0, 2), x -> x.wear(0, 0, 9), x -> x.wear(0, 0, 12), x -> x.wear(0, 0, 22),
            x -> x.wear(0, 0, 29));
        Edges.refused(-5, x -> x.wear(0, 0, 32), x -> x.wear(0, 0, 39));
    }

    static void promise37Worn0To99() {
        LaughterIsMinted x = Edges.pair(0, 0, 0);
        Edges.law(x, "0", "0", "0");
        Check.sheet(x, 0, 0, 0);
        Check.due("all", x.wear(0, 0, 0), 100);
        Check.due("the least", x.wear(0, 0, 1), 0);
        Edges.law(x, "99-(told<1)*98", "0", "0");
        Check.sheet(x, 0, 0, 1);
        Check.due("0, and 49", x.wear(0, 0, 0), 2);
        Check.due("the least", x.wear(0, 0, 1), 0);
        Edges.law(x, "99", "0", "0");
        Check.due("49", x.wear(0, 0, 1), 49);
        Check.sheet(x, 0, 0, 0);
        Check.due("50 .. 99", x.wear(0, 0, 0), 50);
        Check.due("the least", x.wear(0, 0, 1), 50);
    }

    static void promise37AHalfBelow0IsCutTowards0() {
        LaughterIsMinted x = Edges.pair(4, 9, 0);
        x.set(0, 3, 1);
        Edges.law(x, "99", "0", "0");
        Check.sheet(x, 0, 0, 1);
        Check.due("99 less 2 times 77, halved, is -27", x.wear(0, 0, 0), 1);
        Check.due("worn 86", x.wear(0, 0, 1), 86);
    }

    static void promise37AChestnutAtWorn9IsAYarn() {
        LaughterIsMinted x = Edges.pair(4, 0, 0);
        Edges.law(x, "(told=9)*50+(told=10)*60", "0", "0");
        Check.sheet(x, 0, 0, 50 - 18);
        Check.due("worn 9", x.wear(0, 0, 0), 1);
        Check.due("worn 9", x.wear(0, 0, 1), 9);
        Check.sheet(x, 0, 0, 60 - 2 + 10);
        Check.due("worn 10", x.wear(0, 0, 0), 1);
        Check.due("worn 10", x.wear(0, 0, 1), 10);
    }

    static void promise37ThereAreNone() {
        LaughterIsMinted x = three();
        x.cell(0, 1, 22);
        Check.due("how many", x.wear(0, 0, 10), 0);
        Check.due("the least", x.wear(0, 0, 11), -1);
        Check.due("of another joke", x.wear(0, 0, 20), 0);
        Check.due("of another joke", x.wear(0, 0, 21), -1);
    }

    static void promise37TheLastJokeOfAllPlaces() {
        LaughterIsMinted x = full();
        Check.due("a chestnut, at 0 alone", x.wear(0, 5, 40), 2);
        Check.due("the least", x.wear(0, 5, 41), 0);
    }

    static void promise37WearChangesNothing() {
        Edges.stays(EdgesToldTest::three, 1, x -> x.wear(0, 0, 0));
        Edges.stays(EdgesToldTest::three, 0, x -> x.wear(0, 0, 21));
    }

    // ---- whose

    static void promise38WhoseRefusesSheets() {
        Edges.refused(-2, x -> x.whose(-1), x -> x.whose(4), x -> x.whose(SMALL), x -> x.whose(BIG));
        Edges.refused(-11, x -> x.whose(3));
        Edges.stays(Edges::empty, -11, x -> x.whose(0));
    }

    static void promise38WhoseRefusesASheetThatTellsNotAsMany() {
        Edges.refused(-2, x -> x.whose(1));
        Edges.stays(EdgesToldTest::oneFewer, -2, x -> x.whose(0));
        Edges.stays(EdgesToldTest::sheetsAlone, -2, x -> x.whose(1));
    }

    static void promise38ThereIsNobody() {
        Edges.stays(EdgesToldTest::sheetsAlone, 0, x -> x.whose(0));
    }

    static void promise38WhoseOfAllPlaces() {
        Edges.stays(EdgesToldTest::full, 32, x -> x.whose(0));
        LaughterIsMinted x = full();
        for (int h = 0; h < 6; h++) {
            x.film(0, h);
            Check.due("one", x.whose(0), 1 << h);
        }
        for (int h = 0; h < 6; h++) {
            x.set(h, 0, 5);
        }
        x.film(0, 2);
        Check.due("all", x.whose(0), 63);
        x.cell(0, 4, 0);
        Check.due("nobody", x.whose(0), 0);
    }

    static void promise38AllOfNoJokes() {
        Edges.stays(EdgesToldTest::noJokes, 1, x -> x.whose(0));
    }

    // ---- laws

    static void promise39LawsRefusesSheets() {
        refusesSheets(-2, -11, (x, s, h) -> x.laws(s, h));
    }

    static void promise39LawsRefusesASheetThatTellsNotAsMany() {
        refusesSizes(-2, (x, s, h) -> x.laws(s, h));
    }

    static void promise39LawsRefusesHearers() {
        refusesHearers(-6, (x, s, h) -> x.laws(s, h));
    }

    static void promise39LawsOfAllPlaces() {
        Edges.stays(EdgesToldTest::full, 1 + 8 + 32, x -> x.laws(0, 5));
        LaughterIsMinted x = full();
        x.force(4);
        Check.due("whatever is the law", x.laws(0, 5), 1 + 8 + 32);
        x.film(0, 0);
        Check.due("of humour 0 all", x.laws(0, 0), 63);
        x.cell(0, 0, 21);
        Check.due("none", x.laws(0, 0), 0);
    }

    static void promise39OneTextAlone() {
        Edges.stays(EdgesToldTest::three, 1, x -> x.laws(0, 0));
        Edges.stays(EdgesToldTest::noJokes, 1, x -> x.laws(0, 0));
    }

    // ---- amiss

    static void promise40AmissRefusesSheets() {
        refusesSheets(NO, NO, (x, s, h) -> x.amiss(s, h));
    }

    static void promise40AmissRefusesASheetThatTellsNotAsMany() {
        refusesSizes(NO, (x, s, h) -> x.amiss(s, h));
    }

    static void promise40AmissRefusesHearers() {
        refusesHearers(NO, (x, s, h) -> x.amiss(s, h));
    }

    static void promise40NothingIsAmiss() {
        Edges.stays(EdgesToldTest::three, 0, x -> x.amiss(0, 0));
        Edges.stays(EdgesToldTest::noJokes, 0, x -> x.amiss(0, 0));
    }

    static void promise40AboveAndBelowAreAlike() {
        LaughterIsMinted x = three();
        x.cell(0, 0, 36);
        Check.due("above", x.amiss(0, 0), 5);
        x.cell(0, 0, 34);
        Check.due("below", x.amiss(0, 0), 5);
        x.cell(0, 1, 22);
        Check.due("together", x.amiss(0, 0), 10);
    }

    static void promise40AsFarAsIntsAre() {
        LaughterIsMinted x = new LaughterIsMinted();
        for (int j = 0; j < 5; j++) {
            x.joke(0, 0);
        }
        x.hearer(0, 1);
        Edges.law(x, "99", "0", "99");
        Check.sheet(x, 0, 2, SMALL, SMALL, SMALL, SMALL, SMALL);
        Check.due("the least", x.amiss(0, 0), 5 * 99 * (2147483648L + 99));
        Check.sheet(x, 0, 2, BIG, BIG, BIG, BIG, BIG);
        Check.due("the greatest", x.amiss(0, 0), 5 * 99 * (2147483647L - 99));
    }

    static void promise40MindsOfEachJoke() {
        LaughterIsMinted x = three();
        Edges.law(x, "35", "0", "more*10+told");
        x.tell(2, 0);
        x.set(0, 3, 0);
        Check.sheet(x, 0, 1, 0, 20, 36);
        Check.due("35 times 0, 1 times 40, 1 times 22", x.amiss(0, 0), 62);
    }

    static void promise40AmissChangesNothing() {
        Edges.stays(EdgesToldTest::full, 0, x -> x.amiss(0, 5));
        Edges.stays(EdgesToldTest::full, 5 * (3 + 1 + 3 + 1 + 3), x -> x.amiss(0, 4));
    }

    // ---- film

    static void promise41FilmRefusesSheets() {
        Edges.refused(-2, x -> x.film(-1, 0), x -> x.film(4, 0), x -> x.film(SMALL, 0), x -> x.film(BIG, 0));
    }

    static void promise41FilmRefusesHearersBehindTheSheet() {
        Edges.refused(-6, x -> x.film(0, -1), x -> x.film(0, 3), x -> x.film(3, SMALL), x -> x.film(3, BIG));
        Edges.refused(-2, x -> x.film(4, 3), x -> x.film(-1, -1));
        Edges.stays(Edges::empty, -6, x -> x.film(0, 0));
        Edges.stays(Edges::crowd, -6, x -> x.film(0, 6));
    }

    static void promise41FilmOfNoJokes() {
        LaughterIsMinted x = new LaughterIsMinted();
        x.hearer(0, 1);
        Check.sheet(x, 3, 1, 1, 2, 3);
        Check.due("film", x.film(3, 0), 0);
        Check.due("no place", x.cell(3, 0, 0), -12);
        Check.due("bytes", x.jokesBy(3, 0, 0, 0), 0);
        Check.due("as many", x.judge(3, 0), -1);
    }

    static void promise41FilmOfAllPlaces() {
        LaughterIsMinted x = Edges.crowd();
        for (int s = 0; s < 4; s++) {
            Check.due("film", x.film(s, 5 - s), 5);
            Check.due("bytes", x.jokesBy(s, 0, 0, 0), 0);
            Check.due("the last place", x.copy(s, 4, s, 4, 1), 1);
            Check.due("no more", x.cell(s, 5, 0), -12);
            Check.due("as it would yield", x.judge(s, 5 - s), -1);
        }
    }

    static void promise41FilmTakesAMissingSheetAndOneOfAnotherSize() {
        for (int sort = -1; sort < 3; sort++) {
            LaughterIsMinted x = Edges.crowd();
            x.sheet(2, sort, 40);
            Check.due("film", x.film(2, 1), 5);
            Check.due("no more", x.cell(2, 5, 0), -12);
            Check.due("as it would yield", x.judge(2, 1), -1);
        }
    }

    static void promise41FilmChangesItsSheetAlone() {
        Check.so("as if it was made by hand", Probe.of(() -> {
            LaughterIsMinted x = Edges.busy();
            Check.due("film", x.film(2, 0), 3);
            return x;
        }).equals(Probe.of(() -> {
            LaughterIsMinted x = Edges.busy();
            Check.sheet(x, 2, 0, x.yields(0, 0), x.yields(1, 0), x.yields(2, 0));
            return x;
        })));
    }
}
