/** The edges that promises 12 to 16 name, and those of KINDS, TELLINGS, NIGHTS in the Terms. */
public final class EdgesTellingsTest {
    private static final int BIG = Edges.BIG, SMALL = Edges.SMALL;

    public static void main(String[] args) throws Exception {
        Edges.run(EdgesTellingsTest.class, 12, 16);
    }

    /** One JOKE told so often to another one than the HEARER who is asked, 0. */
    private static LaughterIsMinted worn(int kind, int more, int times, String yields) {
        LaughterIsMinted x = Edges.pair(kind, more, 0);
        x.hearer(0, 1);
        Edges.law(x, yields, "0", "1");
        for (int k = 0; k < times; k++) {
            x.tell(0, 1);
        }
        return x;
    }

    private static void yields(int kind, int more, int times, String said, int fresh, int heard) {
        LaughterIsMinted x = worn(kind, more, times, said);
        Check.due("not heard", x.yields(0, 0), fresh);
        x.set(0, 3, 1);
        Check.due("heard", x.yields(0, 0), heard);
    }

    // ---- yields

    static void promise12YieldsRefusesJokesThatAreNotThere() {
        Edges.refused(-5, x -> x.yields(-1, 0), x -> x.yields(3, 0), x -> x.yields(SMALL, 0), x -> x.yields(BIG, 0));
        Edges.stays(Edges::empty, -5, x -> x.yields(0, 0));
        Edges.stays(Edges::crowd, -5, x -> x.yields(5, 0));
    }

    static void promise12YieldsRefusesHearersWhoAreNotThere() {
        Edges.refused(-6, x -> x.yields(0, -1), x -> x.yields(0, 3), x -> x.yields(0, SMALL), x -> x.yields(0, BIG));
        Edges.stays(Edges::crowd, -6, x -> x.yields(0, 6));
    }

    static void promise12TheJokeIsRefusedAheadOfTheHearer() {
        Edges.refused(-5, x -> x.yields(3, 3), x -> x.yields(-1, -1));
    }

    static void promise12YieldsOfTheLastOfAllPlaces() {
        LaughterIsMinted x = Edges.crowd();
        Check.due("a chestnut with more 4, humour 5", x.yields(4, 5), 35 + 8);
    }

    static void promise12YieldsChangesNothing() {
        Edges.stays(Edges::busy, 13, x -> x.yields(0, 0));
        Edges.stays(Edges::busy, 18, x -> x.yields(1, 0));
    }

    static void promise12TwiceWornIsLess() {
        yields(0, 9, 0, "20", 20, 10);
        yields(0, 9, 1, "20", 18, 9);
        yields(0, 9, 9, "20", 2, 1);
        yields(0, 9, 10, "20", 0, 0);
        yields(0, 9, 11, "20", 0, 0);
        yields(0, 9, 99, "99", 0, 0);
    }

    static void promise12AHalfIsCutIfItIsHeard() {
        yields(0, 0, 0, "21", 21, 10);
        yields(0, 0, 0, "1", 1, 0);
        yields(0, 0, 3, "21", 15, 7);
    }

    static void promise12YieldsAre99AtMostInTheEnd() {
        yields(0, 0, 0, "99", 99, 49);
        yields(0, 0, 0, "100", 99, 49);
        yields(2, 9, 0, "81", 99, 58);
        yields(2, 9, 0, "82", 99, 59);
        yields(2, 9, 0, "99", 99, 67);
    }

    static void promise12YieldsAre0AtLeastInTheEnd() {
        yields(0, 0, 0, "0", 0, 0);
        yields(0, 0, 5, "9", 0, 0);
        yields(2, 1, 3, "9*(told<6)", 0, 0);
        yields(2, 6, 3, "9*(told<6)", 0, 6);
    }

    static void promise12TheTextIsBoundedAheadOfTheKind() {
        yields(0, 0, 5, "200", 89, 44);
        yields(2, 9, 5, "0-200+200*(told<1)", 0, 8);
    }

    static void promise12APunIsHalfAndMoreMore() {
        yields(1, 0, 0, "21", 10, 5);
        yields(1, 9, 0, "21", 19, 14);
        yields(1, 9, 0, "99", 58, 33);
        yields(1, 9, 1, "21", 18, 13);
    }

    static void promise12AHalfBelow0IsCutTowards0() {
        yields(1, 9, 5, "7*(told<5)", 4, 7);
        yields(1, 9, 5, "7", 8, 9);
        yields(1, 9, 4, "7", 9, 9);
        yields(2, 9, 5, "7", 18 - 13, 18 - 6);
    }

    static void promise12AYarnIsTwiceMoreMore() {
        yields(2, 0, 0, "21", 21, 10);
        yields(2, 9, 0, "21", 39, 28);
        yields(2, 9, 1, "21", 35, 26);
    }

    static void promise12AGroanerIs3LessThanAsOneNotHeardIfItIsNotHeard() {
        yields(3, 0, 0, "21", 7, 10);
        yields(3, 9, 0, "21", 16, 19);
        yields(3, 0, 0, "6", 0, 3);
        yields(3, 0, 0, "4", 0, 2);
        yields(3, 0, 9, "21", 7, 10);
    }

    static void promise12AChestnutAtWorn8IsAYarn() {
        yields(4, 0, 4, "30", 14, 7);
        yields(4, 9, 4, "30", 32, 25);
    }

    static void promise12AChestnutAtWorn10IsWorn1And10More() {
        yields(4, 0, 5, "30", 38, 24);
        yields(4, 9, 5, "30", 56, 42);
        yields(4, 9, 5, "71", 97, 62);
    }

    static void promise12AChestnutAtWorn54IsWorn45AndAtWorn99Yields0() {
        yields(4, 9, 27, "99", 9 + 28, 4 + 28);
        yields(4, 9, 50, "99", 0, 0);
    }

    static void promise12TheTextIsAskedWithTheChestnutsWornAsItIs() {
        yields(4, 0, 5, "told+3*(told=10)", 13 - 2 + 10, 5 + 10);
    }

    static void promise12BorrowedIsTimes9By10Cut() {
        yields(5, 9, 0, "20", 18, 9);
        yields(5, 9, 0, "21", 18, 9);
        yields(5, 9, 0, "1", 0, 0);
        yields(5, 9, 0, "99", 89, 44);
        yields(5, 0, 1, "21", 17, 8);
        yields(5, 0, 11, "21", 0, 0);
    }

    static void promise12ATextOfAJokeKnowsWornAndMore() {
        LaughterIsMinted x = worn(3, 7, 0, "told*9+more");
        Check.due("worn 0", x.yields(0, 0), 3 + 7 - 3);
        LaughterIsMinted y = worn(0, 7, 2, "told*9+more");
        Check.due("worn 2", y.yields(0, 0), 18 + 7 - 4);
    }

    // ---- tell

    static void promise13TellRefusesJokesThatAreNotThere() {
        Edges.refused(-5, x -> x.tell(-1, 0), x -> x.tell(3, 0), x -> x.tell(SMALL, 0), x -> x.tell(BIG, 0));
        Edges.stays(Edges::empty, -5, x -> x.tell(0, 0));
        Edges.stays(Edges::crowd, -5, x -> x.tell(5, 0));
    }

    static void promise13TellRefusesHearersWhoAreNotThere() {
        Edges.refused(-6, x -> x.tell(0, -1), x -> x.tell(0, 3), x -> x.tell(0, SMALL), x -> x.tell(0, BIG));
        Edges.stays(Edges::crowd, -6, x -> x.tell(0, 6));
    }

    static void promise13TheJokeIsRefusedAheadOfTheHearer() {
        Edges.refused(-5, x -> x.tell(3, 3), x -> x.tell(-1, -1));
    }

    static void promise13TellOfTheLastOfAllPlaces() {
        LaughterIsMinted x = Edges.crowd();
        Check.due("yields", x.tell(4, 5), 43);
        Check.due("purse", x.of(5, 1), 43);
        Check.due("heard", x.of(5, 3), 16);
        Check.due("worn", x.told(4, 2), 2);
    }

    static void promise13ThePurseIs9999AtMost() {
        int[] before = {9978, 9979, 9980, 9998, 9999};
        int[] then = {9998, 9999, 9999, 9999, 9999};
        for (int k = 0; k < before.length; k++) {
            LaughterIsMinted x = Edges.pair(0, 0, 0);
            x.set(0, 1, before[k]);
            Check.due("yields all the same", x.tell(0, 0), 20);
            Check.due("purse", x.of(0, 1), then[k]);
        }
    }

    static void promise13WornIs99AtMost() {
        LaughterIsMinted x = Edges.pair(0, 0, 0);
        LaughterIsMinted y = Edges.pair(2, 0, 0);
        LaughterIsMinted z = Edges.pair(4, 0, 0);
        for (int k = 0; k <= 102; k++) {
            Check.due("a joke", x.told(0, 2), Math.min(99, k));
            Check.due("a yarn", y.told(0, 2), Math.min(99, 2 * k));
            Check.due("a chestnut", z.told(0, 2), Math.min(99, 2 * k));
            x.tell(0, 0);
            y.tell(0, 0);
            z.tell(0, 0);
        }
    }

    static void promise13WornByATellingOfEachKind() {
        int[] due = {1, 1, 2, 0, 2, 1};
        for (int kind = 0; kind <= 5; kind++) {
            LaughterIsMinted x = Edges.pair(kind, 9, 0);
            x.tell(0, 0);
            Check.due("kind " + kind, x.told(0, 2), due[kind]);
        }
    }

    static void promise13ItYieldsAsItIsWornAheadOfTheTelling() {
        LaughterIsMinted x = Edges.pair(0, 0, 0);
        Check.due("worn 0, not heard", x.tell(0, 0), 20);
        Check.due("worn 1, heard", x.tell(0, 0), 9);
        Check.due("purse", x.of(0, 1), 29);
    }

    static void promise13ItIsHeardByThatOneAlone() {
        LaughterIsMinted x = Edges.crowd();
        x.tell(2, 3);
        for (int h = 0; h < 6; h++) {
            Check.due("heard", x.of(h, 3), h == 3 ? 4 : 0);
            Check.due("purse", x.of(h, 1), h == 3 ? 33 : 0);
        }
        for (int j = 0; j < 5; j++) {
            Check.due("worn", x.told(j, 2), j == 2 ? 2 : 0);
        }
        x.tell(2, 3);
        Check.due("heard once and again", x.of(3, 3), 4);
    }

    static void promise13ATellingThatYieldsNothingIsHeardAndWorn() {
        LaughterIsMinted x = Edges.pairBy(0, 0, "0");
        Check.due("yields", x.tell(0, 0), 0);
        Check.due("purse", x.of(0, 1), 0);
        Check.due("heard", x.of(0, 3), 1);
        Check.due("worn", x.told(0, 2), 1);
    }

    // ---- pay

    private static LaughterIsMinted two(int purse, int other) {
        LaughterIsMinted x = Edges.busy();
        x.set(0, 1, purse);
        x.set(1, 1, other);
        return x;
    }

    private static void paid(int purse, int other, int much) {
        LaughterIsMinted x = two(purse, other);
        Check.due("purse then", x.pay(0, 1, much), purse - much);
        Check.due("purse", x.of(0, 1), purse - much);
        Check.due("the other purse", x.of(1, 1), other + much);
        Check.due("a third one's", x.of(2, 1), 9091);
    }

    static void promise14PayTakes0To9999() {
        paid(9999, 0, 0);
        paid(0, 9999, 0);
        paid(9999, 0, 9999);
        paid(9999, 0, 9998);
        paid(5, 5, 1);
    }

    static void promise14PayRefusesMuch() {
        Edges.stays(() -> two(9999, 0), -7, x -> x.pay(0, 1, -1), x -> x.pay(0, 1, 10000), x -> x.pay(0, 1, BIG),
            x -> x.pay(0, 1, SMALL));
    }

    static void promise14AllOfThePurseCanBePaid() {
        paid(77, 0, 77);
    }

    static void promise14OneMoreThanThePurseIsState() {
        Edges.stays(() -> two(77, 0), -3, x -> x.pay(0, 1, 78), x -> x.pay(0, 1, 9999));
        Edges.stays(() -> two(0, 0), -3, x -> x.pay(0, 1, 1));
    }

    static void promise14TheOtherPurseMayBecome9999() {
        paid(77, 9922, 77);
        paid(9999, 9998, 1);
    }

    static void promise14OneMoreIsFull() {
        Edges.stays(() -> two(78, 9922), -4, x -> x.pay(0, 1, 78));
        Edges.stays(() -> two(9999, 9999), -4, x -> x.pay(0, 1, 1), x -> x.pay(0, 1, 9999));
    }

    static void promise14PayRefusesHearersWhoAreNotThere() {
        Edges.refused(-5, x -> x.pay(-1, 0, 0), x -> x.pay(3, 0, 0), x -> x.pay(0, -1, 0), x -> x.pay(0, 3, 0),
            x -> x.pay(SMALL, BIG, 0));
        Edges.stays(Edges::empty, -5, x -> x.pay(0, 1, 0));
        Edges.stays(Edges::crowd, -5, x -> x.pay(5, 6, 0), x -> x.pay(6, 5, 0));
        Check.due("the last of all places", Edges.crowd().pay(5, 4, 0), 0);
    }

    static void promise14PayRefusesTheSameOne() {
        Edges.refused(-5, x -> x.pay(0, 0, 0), x -> x.pay(2, 2, 1));
    }

    static void promise14TheHearersAreRefusedAheadOfMuch() {
        Edges.refused(-5, x -> x.pay(3, 0, -1), x -> x.pay(0, 3, 10000), x -> x.pay(1, 1, -1));
    }

    static void promise14MuchIsRefusedAheadOfThePurse() {
        Edges.stays(() -> two(0, 9999), -7, x -> x.pay(0, 1, 10000), x -> x.pay(0, 1, -1));
    }

    static void promise14ThePurseIsRefusedAheadOfTheOtherOne() {
        Edges.stays(() -> two(5, 9999), -3, x -> x.pay(0, 1, 6));
        Edges.stays(() -> two(5, 9999), -4, x -> x.pay(0, 1, 5));
    }

    // ---- fades

    private static LaughterIsMinted purse(int purse, String fades) {
        LaughterIsMinted x = Edges.pair(0, 5, 0);
        Edges.law(x, "0", fades, "0");
        x.set(0, 1, purse);
        return x;
    }

    static void promise15FadesRefusesHearersWhoAreNotThere() {
        Edges.refused(-5, x -> x.fades(-1), x -> x.fades(3), x -> x.fades(SMALL), x -> x.fades(BIG));
        Edges.stays(Edges::empty, -5, x -> x.fades(0));
        Edges.stays(Edges::crowd, -5, x -> x.fades(6));
        Check.due("the last of all places", Edges.crowd().fades(5), 0);
    }

    static void promise15FadesChangesNothing() {
        Edges.stays(Edges::busy, 909, x -> x.fades(2));
    }

    static void promise15OfThePurseFades0To100By100() {
        Check.due("0", purse(9999, "0").fades(0), 0);
        Check.due("100", purse(9999, "100").fades(0), 9999);
        Check.due("99", purse(9999, "99").fades(0), 9899);
        Check.due("below", purse(9999, "-1").fades(0), 0);
        Check.due("above", purse(9999, "101").fades(0), 9999);
    }

    static void promise15WhatFadesIsCut() {
        Check.due("0.99", purse(99, "1").fades(0), 0);
        Check.due("1", purse(100, "1").fades(0), 1);
        Check.due("1.99", purse(199, "1").fades(0), 1);
        Check.due("nothing of nothing", purse(0, "100").fades(0), 0);
    }

    static void promise15FadesKnowNoToldAndNoMore() {
        LaughterIsMinted x = purse(1000, "told*10+more+5");
        x.tell(0, 0);
        Check.due("0 both", x.fades(0), 50);
        Check.due("0 both", x.night(), 50);
    }

    static void promise15FadesOfAHearer() {
        LaughterIsMinted x = Edges.crowd();
        Edges.law(x, "0", "hearer+humour+day*10+(999<purse)*50", "0");
        for (int h = 0; h < 6; h++) {
            x.set(h, 1, 999);
            Check.due("999", x.fades(h), 999 * 2 * h / 100);
            x.set(h, 1, 1000);
            Check.due("1000", x.fades(h), 10 * (2 * h + 50));
        }
        x.night();
        x.set(0, 1, 100);
        Check.due("day 1", x.fades(0), 10);
    }

    // ---- night

    private static LaughterIsMinted atDay(int day) {
        LaughterIsMinted x = Edges.busy();
        while (x.count(2) < day) {
            x.night();
        }
        x.set(1, 1, 1000);
        return x;
    }

    static void promise16TheNightOfDay98IsTheLast() {
        LaughterIsMinted x = atDay(98);
        x.force(0);
        Check.due("fades", x.night(), 100);
        Check.due("day", x.count(2), 99);
        Check.due("purse", x.of(1, 1), 900);
    }

    static void promise16NightIsFullAtDay99() {
        Edges.stays(() -> atDay(99), -4, x -> x.night());
    }

    static void promise16ANightOfNobody() {
        LaughterIsMinted x = new LaughterIsMinted();
        Check.due("fades", x.night(), 0);
        Check.due("day", x.count(2), 1);
    }

    static void promise16ANightOfAllPlaces() {
        LaughterIsMinted x = Edges.crowd();
        for (int h = 0; h < 6; h++) {
            x.set(h, 1, 9999);
        }
        Check.due("together", x.night(), 6 * 999);
        for (int h = 0; h < 6; h++) {
            Check.due("purse", x.of(h, 1), 9000);
        }
    }

    static void promise16EachPurseIsCutByItself() {
        LaughterIsMinted x = Edges.crowd();
        for (int h = 0; h < 6; h++) {
            x.set(h, 1, 9);
        }
        Check.due("together", x.night(), 0);
        x.set(0, 1, 10);
        Check.due("together", x.night(), 1);
    }

    static void promise16TheDayIsMoreBehindAllThatFades() {
        LaughterIsMinted x = Edges.crowd();
        Edges.law(x, "0", "day*100", "0");
        for (int h = 0; h < 6; h++) {
            x.set(h, 1, 50);
        }
        Check.due("day 0", x.night(), 0);
        Check.due("day 1", x.night(), 300);
        Check.due("purse", x.of(5, 1), 0);
    }
}
