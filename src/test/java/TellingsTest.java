/** Promises 12 to 16: yields, tell, pay, fades, night. */
public final class TellingsTest {
    public static void main(String[] args) {
        plainJoke();
        pun();
        yarn();
        groaner();
        chestnut();
        borrowed();
        belowZero();
        yieldBounds();
        textOfJoke();
        telling();
        refusedTellings();
        paying();
        nights();
        fadesByText();
        lastDay();
        Check.end("TellingsTest");
    }

    /** One JOKE, one HEARER of a HUMOUR. */
    private static LaughterIsMinted with(int kind, int more, int humour) {
        LaughterIsMinted x = new LaughterIsMinted();
        x.joke(kind, more);
        x.hearer(humour, 1);
        return x;
    }

    private static void tellings(LaughterIsMinted x, int... due) {
        for (int k = 0; k < due.length; k++) {
            Check.due("would yield " + k, x.yields(0, 0), due[k]);
            Check.due("yields " + k, x.tell(0, 0), due[k]);
        }
    }

    private static void plainJoke() {
        LaughterIsMinted x = with(0, 9, 5);
        tellings(x, 35, 16, 15, 14, 13);
        Check.due("worn", x.told(0, 2), 5);
        x.set(0, 3, 0);
        tellings(x, 25, 11);
    }

    private static void pun() {
        LaughterIsMinted x = with(1, 4, 5);
        tellings(x, 17 + 4, 8 + 4, 7 + 4, 7 + 4, 6 + 4);
        Check.due("worn", x.told(0, 2), 5);
        x.set(0, 3, 0);
        tellings(x, 12 + 4);
    }

    private static void yarn() {
        LaughterIsMinted x = with(2, 3, 5);
        tellings(x, 35 + 6, (35 - 4) / 2 + 6, (35 - 8) / 2 + 6, (35 - 12) / 2 + 6);
        Check.due("worn", x.told(0, 2), 8);
        x.set(0, 3, 0);
        tellings(x, 19 + 6);
    }

    private static void groaner() {
        LaughterIsMinted x = with(3, 4, 5);
        tellings(x, 17 + 4 - 3, 17 + 4, 17 + 4);
        Check.due("worn", x.told(0, 2), 0);
        x.set(0, 3, 0);
        tellings(x, 17 + 4 - 3);
    }

    private static void chestnut() {
        LaughterIsMinted x = with(4, 3, 5);
        tellings(x, 41, 15 + 6, 13 + 6, 11 + 6, 9 + 6, (35 - 2) / 2 + 16, (35 - 6) / 2 + 16);
        Check.due("worn", x.told(0, 2), 14);
        x.set(0, 3, 0);
        Check.due("not heard", x.yields(0, 0), 35 - 10 + 16);
        LaughterIsMinted y = with(4, 0, 0);
        y.force(Check.read(y, "yields 20 + (8 < told) * 40;fades 0;minds 0;"));
        tellings(y, 20, 8, 6, 4);
        Check.due("told 8", y.yields(0, 0), 2);
        y.tell(0, 0);
        Check.due("told 10, as it is", y.yields(0, 0), (60 - 2) / 2 + 10);
    }

    private static void borrowed() {
        LaughterIsMinted x = with(5, 9, 5);
        tellings(x, 35 * 9 / 10, 16 * 9 / 10, 15 * 9 / 10, 14 * 9 / 10);
        Check.due("worn", x.told(0, 2), 4);
    }

    /** Half of what is below 0 is cut, not taken down. */
    private static void belowZero() {
        LaughterIsMinted x = with(1, 9, 0);
        x.force(Check.read(x, "yields 7 * (told < 5) ;fades 0;minds 0;"));
        for (int k = 0; k < 5; k++) {
            x.tell(0, 0);
        }
        Check.due("worn", x.told(0, 2), 5);
        Check.due("-10 / 2 / 2 + 9", x.yields(0, 0), 7);
        x.set(0, 3, 0);
        Check.due("-10 / 2 + 9", x.yields(0, 0), 4);
        x.tell(0, 0);
        Check.due("-12 / 2 / 2 + 9", x.yields(0, 0), 6);
        x.tell(0, 0);
        Check.due("-14 / 2 / 2 + 9", x.yields(0, 0), 6);
        LaughterIsMinted y = with(2, 5, 0);
        y.force(Check.read(y, "yields told < 4;fades 0;minds 0;"));
        y.tell(0, 0);
        Check.due("(1 - 4) / 2 + 10", y.yields(0, 0), 9);
    }

    private static void yieldBounds() {
        LaughterIsMinted x = with(2, 9, 9);
        x.force(Check.read(x, "yields 90;fades 0;minds 0;"));
        Check.due("99 at most", x.yields(0, 0), 99);
        LaughterIsMinted y = with(0, 0, 0);
        y.force(Check.read(y, "yields 3;fades 0;minds 0;"));
        tellings(y, 3, 0, 0, 0, 0);
        LaughterIsMinted z = with(0, 0, 0);
        z.force(Check.read(z, "yields 500;fades 0;minds 0;"));
        tellings(z, 99, 48);
        LaughterIsMinted w = with(3, 0, 0);
        w.force(Check.read(w, "yields 4;fades 0;minds 0;"));
        tellings(w, 0, 2);
    }

    private static void textOfJoke() {
        LaughterIsMinted x = new LaughterIsMinted();
        x.joke(0, 3);
        x.joke(0, 8);
        x.hearer(2, 1);
        x.hearer(4, 1);
        x.force(Check.read(x, "yields told*9+more*2+hearer*20+humour+day+purse*(purse<9);fades 0;minds 0;"));
        Check.due("more", x.yields(0, 0), 6 + 2);
        Check.due("more", x.yields(1, 0), 16 + 2);
        Check.due("hearer", x.yields(0, 1), 6 + 20 + 4);
        x.night();
        Check.due("day", x.yields(0, 0), 6 + 2 + 1);
        Check.due("tell", x.tell(0, 0), 9);
        Check.due("told", x.yields(0, 1), 9 + 6 + 20 + 4 + 1 - 2);
        x.set(1, 1, 7);
        Check.due("purse", x.yields(1, 1), 16 + 20 + 4 + 1 + 7);
    }

    private static void telling() {
        LaughterIsMinted x = new LaughterIsMinted();
        x.joke(0, 0);
        x.joke(2, 0);
        x.hearer(0, 1);
        x.hearer(0, 1);
        x.set(0, 1, 9990);
        Check.due("yields", x.tell(1, 0), 20);
        Check.due("purse at most", x.of(0, 1), 9999);
        Check.due("heard", x.of(0, 3), 2);
        Check.due("worn", x.told(1, 2), 2);
        Check.due("the other purse", x.of(1, 1), 0);
        Check.due("the other has not heard", x.of(1, 3), 0);
        Check.due("the other joke", x.told(0, 2), 0);
        Check.due("yields", x.tell(1, 1), 16);
        Check.due("purse", x.of(1, 1), 16);
        Check.due("yields", x.tell(0, 1), 20);
        Check.due("heard", x.of(1, 3), 3);
        for (int k = 0; k < 47; k++) {
            x.tell(1, 0);
        }
        Check.due("worn", x.told(1, 2), 98);
        x.tell(1, 0);
        Check.due("worn at most", x.told(1, 2), 99);
        x.tell(1, 0);
        Check.due("worn at most", x.told(1, 2), 99);
        Check.due("changes nothing", x.yields(0, 1), 9);
        Check.due("changes nothing", x.yields(0, 1), 9);
    }

    private static void refusedTellings() {
        LaughterIsMinted x = with(0, 0, 0);
        int[][] bad = {{1, 0, -5}, {-1, 0, -5}, {0, 1, -6}, {0, -1, -6}, {5, 6, -5}};
        for (int[] b : bad) {
            Check.due("yields", x.yields(b[0], b[1]), b[2]);
            Check.due("tell", x.tell(b[0], b[1]), b[2]);
        }
        Check.due("as it was", x.told(0, 2), 0);
    }

    private static void paying() {
        LaughterIsMinted x = new LaughterIsMinted();
        x.hearer(0, 1);
        x.hearer(0, 1);
        x.set(0, 1, 100);
        Check.due("purse then", x.pay(0, 1, 30), 70);
        Check.due("purse", x.of(0, 1), 70);
        Check.due("the other", x.of(1, 1), 30);
        Check.due("nothing", x.pay(0, 1, 0), 70);
        Check.due("less", x.pay(0, 1, 71), -3);
        Check.due("all", x.pay(0, 1, 70), 0);
        x.set(0, 1, 9999);
        Check.due("above", x.pay(0, 1, 9900), -4);
        Check.due("to the bound", x.pay(0, 1, 9899), 100);
        Check.due("the other", x.of(1, 1), 9999);
        Check.due("less ahead of above", x.pay(0, 1, 101), -3);
        Check.due("oneself", x.pay(0, 0, 1), -5);
        Check.due("none such", x.pay(2, 0, 1), -5);
        Check.due("none such", x.pay(0, 2, 1), -5);
        Check.due("none such", x.pay(-1, 0, -1), -5);
        Check.due("none such", x.pay(0, -1, 1), -5);
        Check.due("much", x.pay(0, 1, -1), -7);
        Check.due("much", x.pay(0, 1, 10000), -7);
        Check.due("as it was", x.of(0, 1), 100);
    }

    private static void nights() {
        LaughterIsMinted x = new LaughterIsMinted();
        x.hearer(0, 1);
        x.hearer(0, 1);
        x.hearer(0, 1);
        x.set(0, 1, 99);
        x.set(1, 1, 1009);
        x.set(2, 1, 9);
        Check.due("fades", x.fades(0), 9);
        Check.due("fades", x.fades(1), 100);
        Check.due("fades", x.fades(2), 0);
        Check.due("none such", x.fades(3), -5);
        Check.due("none such", x.fades(-1), -5);
        Check.due("together", x.night(), 109);
        Check.due("day", x.count(2), 1);
        Check.due("purse", x.of(0, 1), 90);
        Check.due("purse", x.of(1, 1), 909);
        Check.due("purse", x.of(2, 1), 9);
        Check.due("together", x.night(), 99);
    }

    private static void fadesByText() {
        LaughterIsMinted x = new LaughterIsMinted();
        x.joke(0, 7);
        x.hearer(3, 1);
        x.hearer(5, 1);
        x.tell(0, 0);
        x.set(0, 1, 1000);
        x.set(1, 1, 9999);
        x.force(Check.read(x, "yields 0;fades humour*10+hearer+day+told*7+more*3+(9000<purse)*200;minds 0;"));
        Check.due("by humour", x.fades(0), 300);
        Check.due("at most all", x.fades(1), 9999);
        Check.due("as the day was", x.night(), 10299);
        Check.due("purse", x.of(0, 1), 700);
        Check.due("purse", x.of(1, 1), 0);
        Check.due("by day", x.fades(0), 700 * 31 / 100);
    }

    private static void lastDay() {
        LaughterIsMinted x = new LaughterIsMinted();
        x.hearer(0, 1);
        for (int k = 0; k < 99; k++) {
            Check.due("night", x.night(), 0);
        }
        Check.due("day", x.count(2), 99);
        x.set(0, 1, 100);
        Check.due("full", x.night(), -4);
        Check.due("as it was", x.of(0, 1), 100);
        Check.due("day", x.count(2), 99);
        Check.due("fades", x.fades(0), 10);
    }
}
