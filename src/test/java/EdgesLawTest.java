/** The edges that promises 1 to 6 name, and those of a TEXT. */
public final class EdgesLawTest {
    private static final int BIG = Edges.BIG, SMALL = Edges.SMALL;

    public static void main(String[] args) throws Exception {
        Edges.run(EdgesLawTest.class, 1, 6);
    }

    // ---- a new object

    static void promise01NoJokes() {
        LaughterIsMinted x = new LaughterIsMinted();
        Check.due("count", x.count(0), 0);
        Check.due("told", x.told(0, 0), -5);
        Check.due("taken", x.taken(0, 0), -11);
    }

    static void promise01NoHearers() {
        LaughterIsMinted x = new LaughterIsMinted();
        Check.due("count", x.count(1), 0);
        Check.due("of", x.of(0, 0), -5);
        Check.due("taken", x.taken(5, 6), -11);
    }

    static void promise01DayIs0AtFirst() {
        Check.due("day", new LaughterIsMinted().count(2), 0);
    }

    static void promise01Text0AloneIsTheLawAtFirst() {
        LaughterIsMinted x = new LaughterIsMinted();
        Check.due("texts", x.count(3), 1);
        Check.due("the law", x.count(4), 0);
        for (int humour = 0; humour <= 5; humour++) {
            x.hearer(humour, 1);
            Check.due("yields", x.asks(0, 99, humour, 9), 20 + 3 * humour);
            Check.due("fades", x.asks(1, 99, humour, 9), 10);
            Check.due("minds", x.asks(2, 99, humour, 9), 5);
        }
    }

    static void promise01RatesAre100AtFirst() {
        LaughterIsMinted x = new LaughterIsMinted();
        for (int a = 0; a < 4; a++) {
            for (int b = 0; b < 4; b++) {
                Check.due("change " + a + " " + b, x.change(a, b, 9999), 9999);
                Check.due("rate " + a + " " + b, x.rate(a, b, 7), a == b ? -5 : 100);
            }
        }
    }

    static void promise01AllSheetsAreMissingAtFirst() {
        LaughterIsMinted x = new LaughterIsMinted();
        for (int s = 0; s < 4; s++) {
            Check.due("cell", x.cell(s, 0, 0), -11);
        }
    }

    static void promise01TheTapeIsEmptyAtFirst() {
        LaughterIsMinted x = new LaughterIsMinted();
        Check.due("bytes", x.count(5), 0);
        Check.due("text", x.text(), -100);
    }

    static void promise01NoImageAtFirst() {
        Check.due("back", new LaughterIsMinted().back(), -3);
    }

    static void promise01OneObjectKnowsNothingOfAnother() {
        Check.due("busy", Edges.busy().count(0), 3);
        Check.so("a new one is as the first was", Probe.of(Edges::empty).equals(Probe.of(() -> {
            Edges.busy().night();
            return new LaughterIsMinted();
        })));
        Check.so("a busy one is not", !Probe.of(Edges::empty).equals(Probe.of(Edges::busy)));
    }

    // ---- count

    static void promise02CountTakes0To5() {
        LaughterIsMinted x = Edges.busy();
        int[] due = {3, 3, 1, 2, 1, 3};
        for (int what = 0; what <= 5; what++) {
            Check.due("count " + what, x.count(what), due[what]);
        }
    }

    static void promise02CountRefusesBelow0AndAbove5() {
        Edges.refused(-2, x -> x.count(-1), x -> x.count(6), x -> x.count(BIG), x -> x.count(SMALL));
    }

    static void promise02CountChangesNothing() {
        Edges.stays(Edges::busy, 3, x -> x.count(0), x -> x.count(1), x -> x.count(5));
        Edges.stays(Edges::busy, 1, x -> x.count(2), x -> x.count(4));
    }

    static void promise02CountOfAllPlacesTaken() {
        LaughterIsMinted x = Edges.crowd();
        for (int t = 1; t < 6; t++) {
            Check.read(x, "yields 1;fades 1;minds 1;");
        }
        x.force(5);
        for (int k = 0; k < 99; k++) {
            x.night();
        }
        for (int k = 0; k < 32; k++) {
            x.feed(5, 0, 0, 0, 0, 0);
        }
        int[] due = {5, 6, 99, 6, 5, 160};
        for (int what = 0; what <= 5; what++) {
            Check.due("count " + what, x.count(what), due[what]);
        }
    }

    // ---- feed

    static void promise03FeedTakes1To5() {
        for (int n = 1; n <= 5; n++) {
            LaughterIsMinted x = new LaughterIsMinted();
            Check.due("feed", x.feed(n, 32, 32, 32, 32, 32), n);
            Check.due("count", x.count(5), n);
            Check.due("the tape's size", x.text(), -100 - n);
        }
    }

    static void promise03FeedRefusesNBelow1() {
        Edges.refused(-2, x -> x.feed(0, 1, 1, 1, 1, 1), x -> x.feed(-1, 1, 1, 1, 1, 1), x -> x.feed(SMALL, 1, 1, 1, 1, 1));
    }

    static void promise03FeedRefusesNAbove5() {
        Edges.refused(-2, x -> x.feed(6, 1, 1, 1, 1, 1), x -> x.feed(BIG, 1, 1, 1, 1, 1));
    }

    static void promise03FeedTakesBytes0And255() {
        LaughterIsMinted x = new LaughterIsMinted();
        Check.due("0", x.feed(5, 0, 0, 0, 0, 0), 5);
        Check.due("255", x.feed(5, 255, 255, 255, 255, 255), 10);
    }

    static void promise03FeedRefusesAByteBelow0() {
        Edges.refused(-2, x -> x.feed(5, -1, 1, 1, 1, 1), x -> x.feed(5, 1, -1, 1, 1, 1), x -> x.feed(5, 1, 1, -1, 1, 1),
            x -> x.feed(5, 1, 1, 1, -1, 1), x -> x.feed(5, 1, 1, 1, 1, -1), x -> x.feed(5, SMALL, 1, 1, 1, 1));
    }

    static void promise03FeedRefusesAByteAbove255() {
        Edges.refused(-2, x -> x.feed(5, 256, 1, 1, 1, 1), x -> x.feed(5, 1, 256, 1, 1, 1), x -> x.feed(5, 1, 1, 256, 1, 1),
            x -> x.feed(5, 1, 1, 1, 256, 1), x -> x.feed(5, 1, 1, 1, 1, 256), x -> x.feed(5, 1, 1, 1, 1, BIG));
    }

    static void promise03FeedRefusesAnyOfTheFiveThoughItDoesNotCome() {
        Edges.refused(-2, x -> x.feed(1, 1, 256, 1, 1, 1), x -> x.feed(1, 1, 1, 256, 1, 1), x -> x.feed(1, 1, 1, 1, 256, 1),
            x -> x.feed(1, 1, 1, 1, 1, 256), x -> x.feed(4, 1, 1, 1, 1, -1), x -> x.feed(1, 1, -1, 1, 1, 1));
    }

    private static LaughterIsMinted tape(int size) {
        LaughterIsMinted x = Edges.busy();
        while (x.count(5) + 5 <= size) {
            x.feed(5, 32, 32, 32, 32, 32);
        }
        if (x.count(5) < size) {
            x.feed(size - x.count(5), 32, 32, 32, 32, 32);
        }
        return x;
    }

    static void promise03FeedTakesTheLast5Bytes() {
        for (int n = 1; n <= 5; n++) {
            Check.due("to 160", tape(160 - n).feed(n, 1, 1, 1, 1, 1), 160);
        }
    }

    static void promise03FeedIsFullAndNoneComes() {
        for (int n = 1; n <= 5; n++) {
            int many = n;
            Edges.stays(() -> tape(161 - many), -4, x -> x.feed(many, 1, 1, 1, 1, 1));
            Edges.stays(() -> tape(160), -4, x -> x.feed(many, 1, 1, 1, 1, 1));
        }
    }

    static void promise03FeedTakesFewerBehindFull() {
        LaughterIsMinted x = tape(157);
        Check.due("four", x.feed(4, 1, 1, 1, 1, 1), -4);
        Check.due("three", x.feed(3, 1, 1, 1, 1, 1), 160);
    }

    static void promise03FeedIsBadAheadOfFull() {
        Edges.stays(() -> tape(160), -2, x -> x.feed(6, 1, 1, 1, 1, 1), x -> x.feed(0, 1, 1, 1, 1, 1),
            x -> x.feed(1, 256, 1, 1, 1, 1), x -> x.feed(1, 1, 1, 1, 1, -1));
    }

    static void promise03FeedBytesComeBehindOneByOne() {
        LaughterIsMinted x = Edges.pair(0, 0, 0);
        x.feed(5, 'y', 'i', 'e', 'l', 'd');
        x.feed(4, 's', '1', '2', ';', 'x');
        x.feed(3, 'f', 'a', 'd', 'x', 'x');
        x.feed(2, 'e', 's', 'x', 'x', 'x');
        x.feed(1, '3', 'x', 'x', 'x', 'x');
        x.feed(5, '4', ';', 'm', 'i', 'n');
        x.feed(5, 'd', 's', '5', '6', ';');
        Check.due("text", x.text(), 1);
        x.force(1);
        Check.due("yields", x.asks(0, 0, 0, 0), 12);
        Check.due("fades", x.asks(1, 0, 0, 0), 34);
        Check.due("minds", x.asks(2, 0, 0, 0), 56);
    }

    // ---- text

    private static final String SOUND = "yields 1;fades 1;minds 1;";

    private static void fault(String text, int place) {
        LaughterIsMinted x = new LaughterIsMinted();
        Check.due(text, Check.read(x, text), -100 - place);
        Check.due("the tape behind " + text, x.count(5), 0);
        Check.due("texts behind " + text, x.count(3), 1);
    }

    private static void sound(String text) {
        LaughterIsMinted x = new LaughterIsMinted();
        Check.due(text, Check.read(x, text), 1);
        Check.due("the tape behind " + text, x.count(5), 0);
        Check.due("texts behind " + text, x.count(3), 2);
    }

    private static String spaces(int n) {
        return " ".repeat(n);
    }

    static void promise04TextsAreNumberedFrom1To5() {
        LaughterIsMinted x = new LaughterIsMinted();
        for (int t = 1; t <= 5; t++) {
            Check.due("text", Check.read(x, SOUND), t);
            Check.due("texts", x.count(3), t + 1);
            Check.due("the law stays", x.count(4), 0);
        }
    }

    private static LaughterIsMinted sixTexts(String tape) {
        LaughterIsMinted x = Edges.busy();
        x.text();
        for (int t = 2; t < 6; t++) {
            Check.read(x, SOUND);
        }
        for (int i = 0; i < tape.length(); i++) {
            x.feed(1, tape.charAt(i), 0, 0, 0, 0);
        }
        return x;
    }

    static void promise04TextIsFullAndTheTapeStays() {
        Edges.stays(() -> sixTexts(SOUND), -4, x -> x.text());
        Check.due("bytes", sixTexts(SOUND).count(5), 25);
    }

    static void promise04TextIsFullAheadOfTheFault() {
        Edges.stays(() -> sixTexts("?"), -4, x -> x.text());
        Edges.stays(() -> sixTexts(""), -4, x -> x.text());
    }

    static void promise04TheTapeIsEmptyBehindAText() {
        LaughterIsMinted x = new LaughterIsMinted();
        Check.read(x, SOUND);
        Check.due("bytes", x.count(5), 0);
        Check.due("no more than nothing", x.text(), -100);
    }

    static void promise04TheTapeIsEmptyBehindAFaultThatMakesNoText() {
        LaughterIsMinted x = new LaughterIsMinted();
        Check.due("fault", Check.read(x, "yields 1;?"), -109);
        Check.due("bytes", x.count(5), 0);
        Check.due("texts", x.count(3), 1);
        Check.due("the next one", Check.read(x, SOUND), 1);
    }

    static void promise04WhatStoodOnTheTapeDoesNotCount() {
        LaughterIsMinted x = new LaughterIsMinted();
        for (String stood : new String[] {"1", "x", ";", "s"}) {
            Check.read(x, stood.repeat(160));
            Check.due("a number at its end", Check.read(x, "yields 12"), -109);
            Check.read(x, stood.repeat(160));
            Check.due("a word at its end", Check.read(x, "yields not"), -110);
            Check.read(x, stood.repeat(160));
            Check.due("nothing but a key", Check.read(x, "yields"), -106);
            Check.read(x, stood.repeat(160));
            Check.due("nothing", x.text(), -100);
        }
    }

    static void promise04EachTextIsItsOwn() {
        LaughterIsMinted x = Edges.pair(0, 0, 0);
        for (int t = 1; t <= 5; t++) {
            String e = t + "+1".repeat(20);
            Check.due("text", Check.read(x, "yields " + e + ";fades 1" + e + ";minds 2" + e + ";"), t);
        }
        for (int t = 5; t >= 1; t--) {
            x.force(t);
            Check.due("yields", x.asks(0, 0, 0, 0), t + 20);
            Check.due("fades", x.asks(1, 0, 0, 0), t + 30);
            Check.due("minds", x.asks(2, 0, 0, 0), t + 40);
        }
    }

    static void promise04AFaultChangesNothingButTheTape() {
        Check.so("as with an empty tape", Probe.of(() -> {
            LaughterIsMinted x = Edges.busy();
            Check.due("fault at the end", x.text(), -100);
            return x;
        }).equals(Probe.of(() -> {
            LaughterIsMinted x = Edges.busy();
            x.text();
            Check.due("fault of nothing", x.text(), -100);
            return x;
        })));
    }

    static void promise04TheEmptyTapeHasItsFaultAt0() {
        fault("", 0);
    }

    static void promise04TheFirstByteMayBeTheFault() {
        fault("?", 0);
        fault("x", 0);
        fault(";", 0);
        fault("fades 1;", 0);
    }

    static void promise04TheTextsSizeIsTheFaultIfItEndsTooEarly() {
        String text = "yields1;fades1;minds1;";
        int[] tokens = {0, 6, 7, 8, 13, 14, 15, 20, 21};
        for (int end : tokens) {
            fault(text.substring(0, end), end);
            fault(text.substring(0, end) + "\n ", end + 2);
        }
        fault("yields1;fades1;minds1" + spaces(139), 160);
        fault(spaces(160), 160);
    }

    static void promise04ATextOf160BytesIsTaken() {
        sound(spaces(135) + SOUND);
        sound(SOUND + spaces(135));
        sound("yields 1" + "+1".repeat(67) + "; fades 1;minds 1;");
    }

    static void promise04TheLastByteMayBeTheFault() {
        fault(SOUND + spaces(134) + ";", 159);
        fault(SOUND + spaces(134) + "\t", 159);
    }

    static void promise04EachKeyAndSignHasItsPlace() {
        sound("yields 1;fades 2;minds 3;");
        fault("fades 1;yields 2;minds 3;", 0);
        fault("yields 1;minds 2;fades 3;", 9);
        fault("yields 1;fades 2;fades 3;", 17);
        fault("yields 1 fades 2;minds 3;", 9);
        fault("yields 1;fades 2 minds 3;", 17);
        fault("yields 1;fades 2;minds 3", 24);
        fault("yields 1;;fades 2;minds 3;", 9);
        fault("yields ;fades 2;minds 3;", 7);
        fault("yields 1;fades;minds 3;", 14);
        fault("yields 1;fades 2;minds;", 22);
    }

    static void promise04ASignOrAKeyWantsAOneBehindIt() {
        for (String sign : new String[] {"or", "and", "+", "-", "*", "<", "="}) {
            fault("yields 1 " + sign + ";fades 1;minds 1;", 9 + sign.length());
            fault("yields(1 " + sign + ");fades 1;minds 1;", 9 + sign.length());
            fault("yields 1 " + sign, 9 + sign.length());
        }
        for (String sign : new String[] {"or", "and", "+", "*", "<", "="}) {
            fault("yields " + sign + " 1;fades 1;minds 1;", 7);
            fault("yields 1-" + sign + " 1;fades 1;minds 1;", 9);
        }
        fault("yields not;fades 1;minds 1;", 10);
        fault("yields();fades 1;minds 1;", 7);
        fault("yields(1;fades 1;minds 1;", 8);
        fault("yields 1);fades 1;minds 1;", 8);
    }

    static void promise04NothingStandsBehindTheText() {
        fault(SOUND + ";", 25);
        fault(SOUND + " yields", 26);
        fault(SOUND + "1", 25);
        fault(SOUND + SOUND, 25);
    }

    static void promise04ANumberOf4DigitsIsTaken() {
        LaughterIsMinted x = Edges.pairBy(0, 0, "9999=9998+1");
        Check.due("9999", x.asks(0, 0, 0, 0), 1);
        Edges.law(x, "0009", "0000", "007");
        Check.due("0009", x.asks(0, 0, 0, 0), 9);
        Check.due("0000", x.asks(1, 0, 0, 0), 0);
        Check.due("007", x.asks(2, 0, 0, 0), 7);
    }

    static void promise04ANumberOf5DigitsIsTooLong() {
        fault("yields 10000;fades 1;minds 1;", 7);
        fault("yields 00000;fades 1;minds 1;", 7);
        fault("yields 1;fades 1+99999;minds 1;", 17);
        fault("yields 1;fades 1;minds 123456789012345678901234567890;", 23);
    }

    static void promise04WordsAreAsLongAsCanBe() {
        fault("yieldstold;fades 1;minds 1;", 0);
        fault("yields toldtold;fades 1;minds 1;", 7);
        fault("yields tol;fades 1;minds 1;", 7);
        fault("yields told;fadesday;minds 1;", 12);
        fault("yields nottold;fades 1;minds 1;", 7);
        fault("yields 1 ormore;fades 1;minds 1;", 9);
        sound("yields 1or 2and 3;fades(not(1));minds-told;");
    }

    static void promise04NumbersAreAsLongAsCanBe() {
        fault("yields 12 34;fades 1;minds 1;", 10);
        sound("yields 1234;fades 1;minds 1;");
        fault("yields 1told;fades 1;minds 1;", 8);
        fault("yields told1;fades 1;minds 1;", 11);
    }

    static void promise04BlanksStandBetweenTokens() {
        sound("\n yields\n\n1 ;\nfades 2\n; minds  3\n; \n");
        sound("yields1;fades2;minds3;");
        fault("yie lds 1;fades 2;minds 3;", 0);
        fault("yields hu mour;fades 2;minds 3;", 7);
    }

    /** Of all bytes but the blanks, none can stand behind a TEXT; letters, digits and signs alone can stand in it. */
    static void promise04NoOtherByteIsABlank() {
        for (int b = 0; b < 256; b++) {
            boolean blank = b == 32 || b == 10;
            Check.due("byte " + b, Check.read(new LaughterIsMinted(), SOUND + (char) b), blank ? 1 : -125);
        }
    }

    static void promise04AByteThatBeginsNoTokenIsTheFault() {
        for (int b = 0; b < 256; b++) {
            String text = "yields 1 " + (char) b + " 1;fades 1;minds 1;";
            boolean joins = "+-*<=".indexOf(b) >= 0;
            int place = b == 32 || b == 10 ? 11 : b == ';' ? 11 : 9;
            Check.due("byte " + b, Check.read(new LaughterIsMinted(), text), joins ? 1 : -100 - place);
        }
    }

    static void promise04AByteThatBeginsAOne() {
        for (int b = 0; b < 256; b++) {
            boolean digit = b >= '0' && b <= '9';
            int place = b == 32 || b == 10 || b == '(' || b == '-' ? 8 : 7;
            String text = "yields " + (char) b + ";fades 1;minds 1;";
            Check.due("byte " + b, Check.read(new LaughterIsMinted(), text), digit ? 1 : -100 - place);
        }
    }

    static void promise04AWordThatIsNoNameIsTheFault() {
        for (String name : new String[] {"told", "humour", "more", "day", "purse", "hearer"}) {
            sound("yields " + name + ";fades " + name + ";minds " + name + ";");
            fault("yields 1+" + name + "s;fades 1;minds 1;", 9);
            fault("yields 1+" + name.substring(1) + ";fades 1;minds 1;", 9);
            fault("yields 1+" + name.substring(0, name.length() - 1) + ";fades 1;minds 1;", 9);
            fault("yields 1 " + name + ";fades 1;minds 1;", 9);
        }
        for (String key : new String[] {"yields", "fades", "minds", "or", "and", "not", "a", "z"}) {
            fault("yields 1+" + key + ";fades 1;minds 1;", 9);
        }
    }

    static void promise04OneSignOfComparingAtMost() {
        sound("yields 1<2;fades 1=2;minds(1<2)=(2<1);");
        fault("yields 1<2<3;fades 1;minds 1;", 10);
        fault("yields 1=2=3;fades 1;minds 1;", 10);
        fault("yields 1<2=3;fades 1;minds 1;", 10);
        fault("yields 1=<3;fades 1;minds 1;", 9);
    }

    static void promise04NotStandsAheadOfASumAlone() {
        sound("yields not 1<2 and not not 3;fades 1;minds 1;");
        fault("yields 1<not 2;fades 1;minds 1;", 9);
        fault("yields 1+not 2;fades 1;minds 1;", 9);
        fault("yields 1*not 2;fades 1;minds 1;", 9);
        fault("yields - not 2;fades 1;minds 1;", 9);
        sound("yields - (not 2);fades 1;minds 1;");
    }

    static void promise04FiveAreOpenAtMostOfBrackets() {
        sound("yields(((((1)))));fades(((((1)))));minds(((((1)))));");
        fault("yields((((((1))))));fades 1;minds 1;", 11);
        fault("yields 1;fades((((((1))))));minds 1;", 19);
        fault("yields((((((", 11);
        fault("yields(((((", 11);
    }

    static void promise04FiveAreOpenAtMostOfNot() {
        sound("yields not not not not not 1;fades 1;minds 1;");
        fault("yields not not not not not not 1;fades 1;minds 1;", 27);
    }

    static void promise04FiveAreOpenAtMostOfMinusAheadOfAOne() {
        sound("yields-----1;fades 1;minds 1;");
        fault("yields------1;fades 1;minds 1;", 11);
        sound("yields 1------1;fades 1;minds 1;");
        fault("yields 1-------1;fades 1;minds 1;", 14);
    }

    static void promise04FiveAreOpenAtMostOfAllTogether() {
        sound("yields not(-(not 1));fades not(-(-1));minds-(not(-1));");
        fault("yields not(-(not(1)));fades 1;minds 1;", 16);
        fault("yields not(-(not-1));fades 1;minds 1;", 16);
        fault("yields not((((-1))));fades 1;minds 1;", 14);
        fault("yields-((((not 1))));fades 1;minds 1;", 11);
        fault("yields not----(1);fades 1;minds 1;", 14);
        fault("yields not not not not not-1;fades 1;minds 1;", 26);
    }

    static void promise04AOneThatEndsIsNoLongerOpen() {
        sound("yields(((((1)))))+(((((2)))));fades 1;minds 1;");
        sound("yields-----1*-----1;fades 1;minds 1;");
        sound("yields not not not not not 1 and not not not not not 1;fades 1;minds 1;");
        sound("yields((((-1+-1*-1<-1))));fades 1;minds 1;");
        sound("yields((((not 1 or not 1))));fades 1;minds 1;");
        fault("yields((((-(1)))));fades 1;minds 1;", 11);
        fault("yields not not not not not 1=-1;fades 1;minds 1;", 29);
        fault("yields not not not not -1+-(1);fades 1;minds 1;", 27);
    }

    // ---- what an E is

    private static void holds(String e) {
        LaughterIsMinted x = Edges.pairBy(0, 0, e);
        Check.due(e + " is a text", x.count(4), 1);
        Check.due(e, x.asks(0, 0, 0, 0), 1);
    }

    static void promise04AnEIsAnIntThatWraps() {
        // 2147483647 is 4634 * 463419 + 1, 463419 is 9999 * 46 + 3465
        String most = "(4634*(9999*46+3465)+1)";
        holds("0<" + most);
        holds(most + "+1<0");
        holds(most + "+1=-" + most + "-1");
        holds("-(" + most + "+1)=" + most + "+1");
        holds("-" + most + "-2=" + most);
        holds(most + "*2=-2");
        holds(most + "*" + most + "=1");
        holds("9999*9999*43=4172*1000+747");
    }

    static void promise04LessIsNotLike() {
        holds("1<2");
        holds("(2<2)=0");
        holds("(3<2)=0");
        holds("-1<0");
        holds("(1=2)=0");
        holds("2=2");
    }

    static void promise04WhatIsNot0IsTrue() {
        holds("-1 and 1");
        holds("-1 or 0");
        holds("(not -1)=0");
        holds("not 0");
        holds("not not 7");
        holds("(7 and -7)=1");
        holds("(7 or -7)=1");
        holds("(0 and 7)=0");
        holds("(7 and 0)=0");
        holds("(0 or 0)=0");
        holds("(0 or 9)=1");
    }

    /** Five values wait in each of six E for the innermost ONE. */
    static void promise04AsManyValuesWaitAsCan() {
        holds("0 or 1 and 0<1+2*(".repeat(5) + "0 or 1 and 0<1+2*3" + ")".repeat(5));
        holds("1 or 0 and 0<1+2*(".repeat(5) + "0 or 0 and 0<1+2*3" + ")".repeat(5));
        holds("1+2*(".repeat(5) + "1+2*3" + ")".repeat(5) + "=255");
    }

    static void promise04WhatBindsCloser() {
        holds("1 or 1 and 0");
        holds("(0 and 1 or 1)=1");
        holds("not 2<1");
        holds("(not 0 and 0)=0");
        holds("not 1 or 1");
        holds("2+3*4=14");
        holds("20-5-3=12");
        holds("-2*-3=6");
        holds("-2+3=1");
        holds("1<1+1");
    }

    // ---- force

    static void promise05ForceTakesTheFirstAndTheLastText() {
        LaughterIsMinted x = sixTexts("");
        Check.due("which was", x.force(5), 1);
        Check.due("the law", x.count(4), 5);
        Check.due("which was", x.force(0), 5);
        Check.due("the law", x.count(4), 0);
        Check.due("which was", x.force(0), 0);
        Check.due("the law", x.count(4), 0);
    }

    static void promise05ForceRefusesBelow0() {
        Edges.refused(-2, x -> x.force(-1), x -> x.force(SMALL));
    }

    static void promise05ForceRefusesTheFirstTextThatIsNotThere() {
        Edges.refused(-2, x -> x.force(2), x -> x.force(5), x -> x.force(6), x -> x.force(BIG));
        Edges.stays(Edges::empty, -2, x -> x.force(1));
        Edges.stays(() -> sixTexts(""), -2, x -> x.force(6));
    }

    // ---- asks

    static void promise06AsksTakesParts0To2() {
        LaughterIsMinted x = Edges.pair(0, 0, 4);
        Edges.law(x, "1", "2", "3");
        for (int part = 0; part < 3; part++) {
            Check.due("part " + part, x.asks(part, 0, 0, 0), part + 1);
        }
    }

    static void promise06AsksRefusesParts() {
        Edges.refused(-2, x -> x.asks(-1, 0, 0, 0), x -> x.asks(3, 0, 0, 0), x -> x.asks(BIG, 0, 0, 0),
            x -> x.asks(SMALL, 0, 0, 0));
    }

    static void promise06AsksTakesTold0To99() {
        LaughterIsMinted x = Edges.pairBy(0, 0, "told");
        Check.due("0", x.asks(0, 0, 0, 0), 0);
        Check.due("99", x.asks(0, 99, 0, 0), 99);
    }

    static void promise06AsksRefusesTold() {
        Edges.refused(-2, x -> x.asks(0, -1, 0, 0), x -> x.asks(0, 100, 0, 0), x -> x.asks(0, BIG, 0, 0));
    }

    static void promise06AsksTakesTheLastHearer() {
        LaughterIsMinted x = Edges.crowd();
        Edges.law(x, "hearer", "0", "0");
        Check.due("0", x.asks(0, 0, 0, 0), 0);
        Check.due("5", x.asks(0, 0, 5, 0), 5);
    }

    static void promise06AsksRefusesHearersWhoAreNotThere() {
        Edges.refused(-2, x -> x.asks(0, 0, -1, 0), x -> x.asks(0, 0, 3, 0), x -> x.asks(0, 0, SMALL, 0));
        Edges.stays(Edges::empty, -2, x -> x.asks(0, 0, 0, 0));
        Edges.stays(Edges::crowd, -2, x -> x.asks(0, 0, 6, 0));
    }

    static void promise06AsksTakesMore0To9() {
        LaughterIsMinted x = Edges.pairBy(0, 5, "more");
        Check.due("0", x.asks(0, 0, 0, 0), 0);
        Check.due("9", x.asks(0, 0, 0, 9), 9);
    }

    static void promise06AsksRefusesMore() {
        Edges.refused(-2, x -> x.asks(0, 0, 0, -1), x -> x.asks(0, 0, 0, 10), x -> x.asks(0, 0, 0, SMALL));
    }

    static void promise06ToldAndMoreAreAsGivenOfFadesToo() {
        LaughterIsMinted x = Edges.pair(0, 5, 0);
        Edges.law(x, "0", "told+more", "told+more");
        x.tell(0, 0);
        x.set(0, 1, 1000);
        Check.due("fades", x.asks(1, 40, 0, 9), 49);
        Check.due("minds", x.asks(2, 40, 0, 9), 49);
        Check.due("a night knows of none", x.fades(0), 0);
    }

    static void promise06AsksChangesNothing() {
        Edges.stays(Edges::busy, 29, x -> x.asks(0, 0, 0, 0));
        Edges.stays(Edges::busy, 10, x -> x.asks(1, 99, 0, 0));
    }

    static void promise06YieldsAre0To99ElseTheBound() {
        int[] said = {-9999, -1, 0, 1, 98, 99, 100, 9999};
        int[] due = {0, 0, 0, 1, 98, 99, 99, 99};
        LaughterIsMinted x = Edges.pair(0, 0, 0);
        for (int k = 0; k < 4; k++) {
            Edges.law(x, "" + said[k], "0", "0");
            Check.due("yields " + said[k], x.asks(0, 0, 0, 0), due[k]);
        }
        LaughterIsMinted y = Edges.pair(0, 0, 0);
        for (int k = 4; k < 8; k++) {
            Edges.law(y, "" + said[k], "0", "0");
            Check.due("yields " + said[k], y.asks(0, 0, 0, 0), due[k]);
        }
    }

    static void promise06MindsAre0To99ElseTheBound() {
        int[] said = {-1, 0, 99, 100, 9999};
        int[] due = {0, 0, 99, 99, 99};
        LaughterIsMinted x = Edges.pair(0, 0, 0);
        for (int k = 0; k < 5; k++) {
            Edges.law(x, "0", "0", "" + said[k]);
            Check.due("minds " + said[k], x.asks(2, 0, 0, 0), due[k]);
        }
    }

    static void promise06FadesAre0To100ElseTheBound() {
        int[] said = {-1, 0, 100, 101, 9999};
        int[] due = {0, 0, 100, 100, 100};
        LaughterIsMinted x = Edges.pair(0, 0, 0);
        for (int k = 0; k < 5; k++) {
            Edges.law(x, "0", "" + said[k], "0");
            Check.due("fades " + said[k], x.asks(1, 0, 0, 0), due[k]);
        }
    }

    static void promise06ABoundBehindWrapping() {
        LaughterIsMinted x = Edges.pair(0, 0, 0);
        Edges.law(x, "9999*9999*30", "9999*9999*21", "9999*9999*43");
        Check.due("wraps below 0", x.asks(0, 0, 0, 0), 0);
        Check.due("does not wrap", x.asks(1, 0, 0, 0), 100);
        Check.due("wraps to above 0", x.asks(2, 0, 0, 0), 99);
    }

    static void promise06PurseIsAsItIsThen() {
        LaughterIsMinted x = Edges.pairBy(0, 0, "purse");
        Check.due("0 as one comes", x.asks(0, 0, 0, 0), 0);
        x.set(0, 1, 98);
        Check.due("then", x.asks(0, 0, 0, 0), 98);
        x.set(0, 1, 9999);
        Check.due("most", x.asks(0, 0, 0, 0), 99);
    }

    static void promise06DayIsUpTo99() {
        LaughterIsMinted x = Edges.pairBy(0, 0, "day");
        for (int day = 0; day <= 99; day++) {
            Check.due("day", x.asks(0, 0, 0, 0), day);
            x.night();
        }
    }
}
