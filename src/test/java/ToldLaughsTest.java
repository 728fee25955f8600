/** Promises 33 to 41: judge, humours, heards, kinds, wear, whose, laws, amiss, film. */
public final class ToldLaughsTest {
    public static void main(String[] args) {
        judging();
        whichHumours();
        whatHeard();
        whichKinds();
        howWorn();
        whoseLaughs();
        whichLaws();
        howFarAmiss();
        filming();
        noJokes();
        refused();
        nothingChanges();
        Check.end("ToldLaughsTest");
    }

    /** A JOKE, a PUN with MORE 4, a YARN with MORE 2; HUMOURS 5 and 5 and 3; the second has heard the JOKE. */
    private static LaughterIsMinted three() {
        LaughterIsMinted x = new LaughterIsMinted();
        x.joke(0, 0);
        x.joke(1, 4);
        x.joke(2, 2);
        x.hearer(5, 1);
        x.hearer(5, 1);
        x.hearer(3, 1);
        x.set(1, 3, 1);
        return x;
    }

    private static void judging() {
        LaughterIsMinted x = three();
        for (int sort = 0; sort < 3; sort++) {
            Check.sheet(x, 3, sort, 35, 21, 39);
            Check.due("none", x.judge(3, 0), -1);
            Check.due("the first", x.judge(3, 1), 0);
            Check.due("the first", x.judge(3, 2), 0);
            Check.sheet(x, 3, sort, 17, 21, 39);
            Check.due("none", x.judge(3, 1), -1);
            Check.sheet(x, 3, sort, 35, 20, 38);
            Check.due("the second", x.judge(3, 0), 1);
            Check.sheet(x, 3, sort, 35, 21, 38);
            Check.due("the third", x.judge(3, 0), 2);
        }
        Check.sheet(x, 0, 2, 35 + 256, 21, 39);
        Check.due("an int", x.judge(0, 0), 0);
        Check.sheet(x, 0, 0, 35 + 256, 21, 39);
        Check.due("a byte", x.judge(0, 0), -1);
    }

    private static void whichHumours() {
        LaughterIsMinted x = three();
        Check.sheet(x, 0, 0, 35, 21, 39);
        Check.due("one", x.humours(0, 0), 32);
        Check.due("none", x.humours(0, 1), 0);
        Check.due("were it 5", x.humours(0, 2), 32);
        Check.sheet(x, 0, 0, 20, 14, 24);
        Check.due("nought", x.humours(0, 2), 1);
        Check.sheet(x, 0, 0, 47, 27, 51);
        Check.due("nine", x.humours(0, 2), 512);
        x.force(Check.read(x, "yields 35+humour*(8<humour);fades 0;minds 0;"));
        Check.sheet(x, 0, 0, 35, 21, 39);
        Check.due("all but one", x.humours(0, 0), 511);
    }

    private static void whatHeard() {
        LaughterIsMinted x = three();
        Check.sheet(x, 0, 0, 35, 21, 39);
        Check.due("one set", x.heards(0, 1, 0), 1);
        Check.due("in all", x.heards(0, 1, 1), 0);
        Check.due("in none", x.heards(0, 1, 2), 7);
        Check.sheet(x, 0, 0, 17, 12, 39);
        Check.due("one set", x.heards(0, 0, 0), 1);
        Check.due("in all", x.heards(0, 0, 1), 3);
        Check.due("in none", x.heards(0, 0, 2), 4);
        Check.sheet(x, 0, 0, 17, 12, 40);
        Check.due("none", x.heards(0, 0, 0), 0);
        Check.due("none", x.heards(0, 0, 1), -1);
        Check.due("none", x.heards(0, 0, 2), -1);
        x.force(Check.read(x, "yields (more<1)*50+(more=2)*0;fades 0;minds 0;"));
        Check.sheet(x, 0, 0, 25, 4, 4);
        Check.due("sets", x.heards(0, 0, 0), 4);
        Check.due("in all", x.heards(0, 0, 1), 1);
        Check.due("in none", x.heards(0, 0, 2), 0);
        Check.due("what", x.heards(0, 0, 3), -7);
        Check.due("what", x.heards(0, 0, -1), -7);
    }

    private static void whichKinds() {
        LaughterIsMinted x = three();
        Check.sheet(x, 0, 0, 35, 21, 39);
        Check.due("kinds of 0", x.kinds(0, 0, 0), 1 + 4 + 16);
        Check.due("more of 0", x.kinds(0, 0, 1), 1023);
        Check.due("kinds of 1", x.kinds(0, 0, 10), 2);
        Check.due("more of 1", x.kinds(0, 0, 11), 16);
        Check.due("kinds of 2", x.kinds(0, 0, 20), 4 + 16);
        Check.due("more of 2", x.kinds(0, 0, 21), 4);
        Check.due("none", x.kinds(0, 1, 21), 0);
        Check.sheet(x, 0, 0, 35, 18, 39);
        Check.due("a groaner", x.kinds(0, 0, 10), 8);
        Check.due("a pun with less", x.kinds(0, 0, 11), 2);
        Check.sheet(x, 0, 0, 31, 21, 39);
        Check.due("borrowed", x.kinds(0, 0, 0), 32);
        x.force(Check.read(x, "yields 35+more*(hearer=2);fades 0;minds 0;"));
        Check.sheet(x, 0, 0, 44, 23, 41);
        Check.due("the text asks more, too", x.kinds(0, 2, 1), 512);
        Check.due("no such joke", x.kinds(0, 0, 30), -5);
        Check.due("no such joke", x.kinds(0, 0, -1), -5);
        Check.due("no such joke", x.kinds(0, 0, -10), -5);
        Check.due("no such joke", x.kinds(0, 0, Integer.MIN_VALUE), -5);
        Check.due("no such joke", x.kinds(0, 0, 39), -5);
        Check.due("sort", x.kinds(0, 0, 2), -7);
        Check.due("sort", x.kinds(0, 0, 29), -7);
    }

    private static void howWorn() {
        LaughterIsMinted x = three();
        Check.sheet(x, 0, 0, 35, 21, 39);
        Check.due("how many", x.wear(0, 0, 0), 1);
        Check.due("least", x.wear(0, 0, 1), 0);
        Check.due("of the pun", x.wear(0, 0, 10), 1);
        Check.sheet(x, 0, 0, 35, 20, 39);
        Check.due("1 and 2 cut", x.wear(0, 0, 10), 1);
        Check.due("least", x.wear(0, 0, 11), 1);
        Check.sheet(x, 0, 0, 0, 21, 39);
        Check.due("all of 18 and above", x.wear(0, 0, 0), 82);
        Check.due("least", x.wear(0, 0, 1), 18);
        Check.due("none", x.wear(0, 0, 20), 0);
        Check.due("none", x.wear(0, 0, 21), -1);
        x.force(Check.read(x, "yields told*3;fades 0;minds 0;"));
        Check.sheet(x, 0, 0, 9, 4, 4);
        Check.due("the text asks worn, too: 27 - 18 and 99 - 90", x.wear(0, 0, 0), 2);
        Check.due("least", x.wear(0, 0, 1), 9);
        LaughterIsMinted y = new LaughterIsMinted();
        y.joke(4, 3);
        y.hearer(5, 1);
        Check.sheet(y, 0, 0, 35 - 18 + 6);
        Check.due("a chestnut worn 9, or 23", y.wear(0, 0, 0), 2);
        Check.due("least", y.wear(0, 0, 1), 9);
        Check.sheet(y, 0, 0, 35 - 2 + 6 + 10);
        Check.due("a chestnut worn 10", y.wear(0, 0, 0), 1);
        Check.due("least", y.wear(0, 0, 1), 10);
        Check.due("no such joke", x.wear(0, 0, 30), -5);
        Check.due("no such joke", x.wear(0, 0, -1), -5);
        Check.due("no such joke", x.wear(0, 0, 32), -5);
        Check.due("what", x.wear(0, 0, 12), -7);
    }

    private static void whoseLaughs() {
        LaughterIsMinted x = three();
        Check.sheet(x, 1, 1, 35, 21, 39);
        Check.due("the first", x.whose(1), 1);
        Check.sheet(x, 1, 1, 17, 21, 39);
        Check.due("the second", x.whose(1), 2);
        x.set(2, 0, 5);
        x.set(2, 3, 1);
        Check.due("two", x.whose(1), 6);
        Check.sheet(x, 1, 1, 0, 0, 0);
        Check.due("nobody", x.whose(1), 0);
    }

    private static void whichLaws() {
        LaughterIsMinted x = three();
        Check.read(x, "yields 35;fades 0;minds 0;");
        Check.read(x, "yields 29;fades 0;minds 0;");
        Check.read(x, "yields humour*7;fades 0;minds 0;");
        Check.sheet(x, 0, 0, 35, 21, 39);
        Check.due("of the first", x.laws(0, 0), 1 + 2 + 8);
        Check.due("of the third", x.laws(0, 2), 2);
        x.force(2);
        Check.due("whatever is the law", x.laws(0, 0), 1 + 2 + 8);
        Check.due("none", x.laws(0, 1), 0);
        Check.due("the law", x.count(4), 2);
    }

    private static void howFarAmiss() {
        LaughterIsMinted x = three();
        Check.sheet(x, 0, 2, 35, 21, 39);
        Check.due("nothing", x.amiss(0, 0), 0);
        Check.sheet(x, 0, 2, 30, 27, 39);
        Check.due("11 times 5", x.amiss(0, 0), 55);
        x.tell(1, 2);
        x.force(Check.read(x, "yields 20+humour*3;fades 0;minds 1+told*10+more+hearer;"));
        Check.sheet(x, 0, 2, 34, 21, 40);
        Check.due("minds of each joke", x.amiss(0, 0), 1 + (21 - 20) * (1 + 10 + 4) + 3);
        Check.due("minds of the hearer", x.amiss(0, 1), 17 * 2 + 16 + 4);
        Check.sheet(x, 0, 2, Integer.MIN_VALUE, 20, 39);
        Check.due("far", x.amiss(0, 0), 2147483648L + 35);
        Check.sheet(x, 0, 2, Integer.MAX_VALUE, Integer.MAX_VALUE, Integer.MIN_VALUE);
        Check.due("far", x.amiss(0, 0), (2147483647L - 35) + (2147483647L - 20) * 15 + (2147483648L + 39) * 3);
        Check.sheet(x, 0, 0, 200, 20, 39);
        Check.due("a byte's lowest 8 bits", x.amiss(0, 0), 35 + 56);
    }

    private static void filming() {
        LaughterIsMinted x = three();
        Check.sheet(x, 1, 2, 7, 7);
        Check.due("three", x.film(1, 2), 3);
        Check.due("of whom", x.whose(1), 4);
        Check.due("bytes", x.jokesBy(1, 0, 0, 0), 0);
        Check.due("as many", x.cell(1, 3, 0), -12);
        Check.sheet(x, 0, 0, 29, 18, 33);
        Check.due("as told", x.judge(0, 2), -1);
        Check.due("SHEET", x.film(4, 0), -2);
        Check.due("SHEET", x.film(-1, 9), -2);
        Check.due("hearer", x.film(0, 3), -6);
        Check.due("hearer", x.film(0, -1), -6);
        Check.due("as it was", x.judge(0, 2), -1);
        Check.due("a missing one", x.film(2, 0), 3);
        Check.due("of whom", x.whose(2), 1);
    }

    private static void noJokes() {
        LaughterIsMinted x = new LaughterIsMinted();
        x.hearer(3, 1);
        Check.due("none", x.film(0, 0), 0);
        Check.due("none", x.judge(0, 0), -1);
        Check.due("all", x.humours(0, 0), 1023);
        Check.due("the empty set", x.heards(0, 0, 0), 1);
        Check.due("in all", x.heards(0, 0, 1), 0);
        Check.due("in none", x.heards(0, 0, 2), 0);
        Check.due("no such joke", x.kinds(0, 0, 0), -5);
        Check.due("no such joke", x.wear(0, 0, 0), -5);
        Check.due("one", x.whose(0), 1);
        Check.due("one", x.laws(0, 0), 1);
        Check.due("nothing", x.amiss(0, 0), 0);
    }

    private static void refusals(LaughterIsMinted x, int s, int h, int due) {
        Check.due("judge", x.judge(s, h), due);
        Check.due("humours", x.humours(s, h), due);
        Check.due("heards", x.heards(s, h, 9), due);
        Check.due("kinds", x.kinds(s, h, 99), due);
        Check.due("wear", x.wear(s, h, 99), due);
        Check.due("laws", x.laws(s, h), due);
        Check.due("amiss", x.amiss(s, h), -4611686018427387904L);
        if (due != -6) {
            Check.due("whose", x.whose(s), due);
        }
    }

    private static void refused() {
        LaughterIsMinted x = three();
        refusals(x, -1, 9, -2);
        refusals(x, 4, 9, -2);
        refusals(x, 0, 9, -11);
        Check.sheet(x, 0, 0, 35, 21);
        refusals(x, 0, 9, -2);
        Check.sheet(x, 0, 0, 35, 21, 39, 0);
        refusals(x, 0, 0, -2);
        Check.sheet(x, 0, 0, 35, 21, 39);
        refusals(x, 0, 3, -6);
        refusals(x, 0, -1, -6);
        Check.due("what ahead of nothing", x.heards(0, 0, 9), -7);
    }

    private static void nothingChanges() {
        LaughterIsMinted x = three();
        Check.sheet(x, 0, 0, 35, 21, 39);
        x.humours(0, 0);
        x.heards(0, 0, 0);
        x.kinds(0, 0, 0);
        x.kinds(0, 0, 11);
        x.wear(0, 0, 0);
        x.laws(0, 0);
        Check.due("as it was", x.judge(0, 0), -1);
        Check.due("kind", x.told(0, 0), 0);
        Check.due("more", x.told(1, 1), 4);
        Check.due("worn", x.told(0, 2), 0);
        Check.due("humour", x.of(0, 0), 5);
        Check.due("heard", x.of(0, 3), 0);
    }
}
