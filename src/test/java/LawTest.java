/** Promises 1 to 6: a new object, count, feed, text, force, asks. */
public final class LawTest {
    public static void main(String[] args) {
        newObject();
        feeding();
        reading();
        faults();
        openOnes();
        values();
        names();
        bounds();
        fullBook();
        forcing();
        asking();
        Check.end("LawTest");
    }

    private static LaughterIsMinted one() {
        LaughterIsMinted x = new LaughterIsMinted();
        x.hearer(4, 2);
        return x;
    }

    private static void newObject() {
        LaughterIsMinted x = new LaughterIsMinted();
        int[] due = {0, 0, 0, 1, 0, 0};
        for (int what = 0; what < 6; what++) {
            Check.due("count " + what, x.count(what), due[what]);
        }
        Check.due("count -1", x.count(-1), -2);
        Check.due("count 6", x.count(6), -2);
        Check.due("told", x.told(0, 0), -5);
        Check.due("of", x.of(0, 0), -5);
        x.joke(0, 0);
        x.joke(0, 0);
        x.hearer(1, 1);
        x.night();
        x.feed(3, 1, 2, 3, 4, 5);
        int[] then = {2, 1, 1, 1, 0, 3};
        for (int what = 0; what < 6; what++) {
            Check.due("count then " + what, x.count(what), then[what]);
        }
    }

    private static void feeding() {
        LaughterIsMinted x = new LaughterIsMinted();
        Check.due("n 0", x.feed(0, 1, 1, 1, 1, 1), -2);
        Check.due("n 6", x.feed(6, 1, 1, 1, 1, 1), -2);
        for (int i = 0; i < 5; i++) {
            int[] bad = {0, 0, 0, 0, 0};
            bad[i] = 256;
            Check.due("above", x.feed(1, bad[0], bad[1], bad[2], bad[3], bad[4]), -2);
            bad[i] = -1;
            Check.due("below", x.feed(1, bad[0], bad[1], bad[2], bad[3], bad[4]), -2);
        }
        Check.due("none came", x.count(5), 0);
        for (int k = 1; k <= 31; k++) {
            Check.due("five", x.feed(5, 255, 0, 32, 10, 97), 5 * k);
        }
        Check.due("three", x.feed(3, 1, 2, 3, 4, 5), 158);
        Check.due("no room", x.feed(3, 1, 2, 3, 4, 5), -4);
        Check.due("none came", x.count(5), 158);
        Check.due("ahead", x.feed(3, 256, 2, 3, 4, 5), -2);
        Check.due("two", x.feed(2, 1, 2, 3, 4, 5), 160);
        Check.due("no room", x.feed(1, 1, 2, 3, 4, 5), -4);
        x.text();
        Check.due("empty", x.count(5), 0);

        for (int n = 1; n <= 5; n++) {
            Check.due("as many", new LaughterIsMinted().feed(n, 1, 2, 3, 4, 5), n);
        }
        LaughterIsMinted y = one();
        int[] all = "yields 12345".chars().toArray();
        y.feed(5, all[0], all[1], all[2], all[3], all[4]);
        y.feed(2, all[5], ' ', 'x', 'x', 'x');
        y.feed(4, '1', '2', ';', ' ', 'x');
        y.feed(5, 'f', 'a', 'd', 'e', 's');
        y.feed(2, '3', ';', 'x', 'x', 'x');
        y.feed(5, 'm', 'i', 'n', 'd', 's');
        y.feed(3, ' ', '4', ';', 'x', 'x');
        Check.due("in their order", y.text(), 1);
        y.force(1);
        Check.due("yields", y.asks(0, 0, 0, 0), 12);
        Check.due("fades", y.asks(1, 0, 0, 0), 3);
        Check.due("minds", y.asks(2, 0, 0, 0), 4);
    }

    private static void reading() {
        LaughterIsMinted x = one();
        Check.due("close together", Check.read(x, "yields1;fades2;minds3;"), 1);
        Check.due("empty then", x.count(5), 0);
        Check.due("texts", x.count(3), 2);
        Check.due("not the law yet", x.count(4), 0);
        Check.due("blanks", Check.read(x, "\n  yields\n1 ; fades 2\n;\nminds 3 ; \n "), 2);
        Check.due("the longest", Check.read(x, pad("yields 1;fades 0002;minds 3;", 160)), 3);
        Check.due("the longest sum", Check.read(x, "yields " + "1+".repeat(65) + "1;fades 2;minds 3;"), 4);
        x.force(4);
        Check.due("66", x.asks(0, 0, 0, 0), 66);
    }

    private static String pad(String text, int size) {
        return text + " ".repeat(size - text.length());
    }

    private static void fault(String text, int place) {
        LaughterIsMinted x = one();
        Check.due(text, Check.read(x, text), -100 - place);
        Check.due("empty then", x.count(5), 0);
        Check.due("no text", x.count(3), 1);
    }

    private static void faults() {
        fault("", 0);
        fault("(".repeat(160), 0);
        fault("yields 1;" + ";".repeat(151), 9);
        fault("yields 1" + "+1".repeat(76), 160);
        fault("yields 1;fades 2;minds 3;" + " ".repeat(134) + "x", 159);
        fault("yields " + "x".repeat(153), 7);
        fault("yields " + "1".repeat(153), 7);
        fault("  \n", 3);
        fault("yield 1;fades 2;minds 3;", 0);
        fault(" yieldsx 1;", 1);
        fault("yields1x;fades 2;minds 3;", 7);
        fault("yields;", 6);
        fault("yields 1", 8);
        fault("yields 1 ", 9);
        fault("yields 1;minds 2;", 9);
        fault("yields 1;fades 2;minds 3", 24);
        fault("yields 1;fades 2;minds 3; ;", 26);
        fault("yields 1;fades 2;minds 3;x", 25);
        fault("yields 1 2;", 9);
        fault("yields 12345;", 7);
        fault("yields 00001;", 7);
        fault("yields 1 + 12345;", 11);
        fault("yields 1 12345;", 9);
        fault("yields 1 < 2 < 3;", 13);
        fault("yields 1 = 2 < 3;", 13);
        fault("yields 1 + not 2;", 11);
        fault("yields 1 < not 2;", 11);
        fault("yields - not 2;", 9);
        fault("yields 1 or;", 11);
        fault("yields and 1;", 7);
        fault("yields 1 not;", 9);
        fault("yields 1 * ;", 11);
        fault("yields + 1;", 7);
        fault("yields (1;", 9);
        fault("yields 1);", 8);
        fault("yields ();", 8);
        fault("yields 1 ( 2 );", 9);
        fault("yields minds;", 7);
        fault("yields A;", 7);
        fault("yields 1 / 2;", 9);
        fault("yields 1\t;", 8);
        fault("yields 1" + (char) 233 + ";", 8);
        fault("yields 1\r;", 8);
        fault("yields more more;", 12);
        fault("yields humours;", 7);
        fault("yields hum our;", 7);
        fault("A yields 12345;", 0);
    }

    private static void openOnes() {
        LaughterIsMinted x = one();
        String rest = ";fades 2;minds 3;";
        Check.due("five (", Check.read(x, "yields(((((7)))))" + rest), 1);
        Check.due("five not", Check.read(x, "yields not not not not not 7" + rest), 2);
        Check.due("five -", Check.read(x, "yields 0 - - - - - - 7" + rest), 3);
        Check.due("two by two", Check.read(x, "yields(((1)))+(((-(1))))*(((((1)))))" + rest), 4);
        Check.due("not ends", Check.read(x, "yields not not ((1)) and not not ((not 0)) or (((((1)))))" + rest), 5);
        fault("yields((((((7))))))" + rest, 11);
        fault("yields not not not not not not 7" + rest, 27);
        fault("yields ------7" + rest, 12);
        fault("yields((((-(7)))))" + rest, 11);
        fault("yields(((((not 7)))))" + rest, 11);
        fault("yields not(not(-(7)+(not 1)))" + rest, 16);
    }

    private static int value(String e) {
        LaughterIsMinted x = one();
        Check.due(e, Check.read(x, "yields " + e + ";fades 0;minds 0;"), 1);
        x.force(1);
        return x.asks(0, 0, 0, 0);
    }

    private static void values() {
        Check.due("2+3*4", value("2+3*4"), 14);
        Check.due("(2+3)*4", value("(2+3)*4"), 20);
        Check.due("20-5-3", value("20-5-3"), 12);
        Check.due("20-5+3", value("20-5+3"), 18);
        Check.due("2*3*4", value("2*3*4"), 24);
        Check.due("-3+10", value("-3+10"), 7);
        Check.due("- -3", value("- -3"), 3);
        Check.due("2*-3+9", value("2*-3+9"), 3);
        Check.due("1<2", value("1<2"), 1);
        Check.due("2<2", value("2<2"), 0);
        Check.due("2=2", value("2=2"), 1);
        Check.due("2=3", value("2=3"), 0);
        Check.due("1+1=2", value("1+1=2"), 1);
        Check.due("(1<2)*7", value("(1<2)*7"), 7);
        Check.due("not 0", value("not 0"), 1);
        Check.due("not 5", value("not 5"), 0);
        Check.due("not not 5", value("not not 5"), 1);
        Check.due("not 1 < 2", value("not 1 < 2"), 0);
        Check.due("not 2 = 3", value("not 2 = 3"), 1);
        Check.due("5 and 6", value("5 and 6"), 1);
        Check.due("5 and 0", value("5 and 0"), 0);
        Check.due("0 and 5", value("0 and 5"), 0);
        Check.due("0 or 7", value("0 or 7"), 1);
        Check.due("7 or 0", value("7 or 0"), 1);
        Check.due("0 or 0", value("0 or 0"), 0);
        Check.due("1 or 0 and 0", value("1 or 0 and 0"), 1);
        Check.due("(1 or 0) and 0", value("(1 or 0) and 0"), 0);
        Check.due("not 1 or 1", value("not 1 or 1"), 1);
        Check.due("not (1 or 1)", value("not (1 or 1)"), 0);
        Check.due("8", value("8"), 8);
        Check.due("wraps", value("9999*9999*43=4172*1000+747"), 1);
        Check.due("wraps below 0", value("9999*9999*30<0"), 1);
        Check.due("deep", value("0 or 1 and 0<1+2*(".repeat(5) + "3" + ")".repeat(5)), 1);
        Check.due("deep", value("1 and 5<1+2*(".repeat(5) + "3" + ")".repeat(5)), 0);
    }

    private static void names() {
        LaughterIsMinted x = new LaughterIsMinted();
        x.hearer(1, 1);
        x.hearer(2, 1);
        x.hearer(7, 1);
        x.set(2, 1, 55);
        x.night();
        x.night();
        x.night();
        x.set(2, 1, 44);
        String[] name = {"told", "humour", "more", "day", "purse", "hearer"};
        int[] due = {33, 7, 9, 3, 44, 2};
        for (int i = 0; i < 5; i++) {
            int t = Check.read(x, "yields " + name[i] + ";fades " + name[i] + ";minds " + name[i] + ";");
            Check.due(name[i], t, i + 1);
            x.force(t);
            for (int part = 0; part < 3; part++) {
                Check.due(name[i] + " of " + part, x.asks(part, 33, 2, 9), due[i]);
            }
        }
        LaughterIsMinted y = new LaughterIsMinted();
        for (int h = 0; h < 6; h++) {
            y.hearer(0, 1);
        }
        y.force(Check.read(y, "yields hearer;fades hearer;minds hearer;"));
        for (int h = 0; h < 6; h++) {
            Check.due("hearer", y.asks(h % 3, 0, h, 0), h);
        }
    }

    private static void bounds() {
        LaughterIsMinted x = one();
        x.force(Check.read(x, "yields 100;fades 101;minds 100;"));
        Check.due("yields above", x.asks(0, 0, 0, 0), 99);
        Check.due("fades above", x.asks(1, 0, 0, 0), 100);
        Check.due("minds above", x.asks(2, 0, 0, 0), 99);
        x.force(Check.read(x, "yields -1;fades -1;minds -1;"));
        for (int part = 0; part < 3; part++) {
            Check.due("below", x.asks(part, 0, 0, 0), 0);
        }
    }

    private static void fullBook() {
        LaughterIsMinted x = one();
        for (int t = 1; t < 6; t++) {
            Check.due("text", Check.read(x, "yields " + t + ";fades 1;minds 1;"), t);
        }
        Check.due("full", Check.read(x, "yields 1;fades 1;minds 1;"), -4);
        Check.due("the tape stays", x.count(5), 25);
        Check.due("ahead of the fault", Check.read(x, "?"), -4);
        Check.due("the tape stays", x.count(5), 26);
        Check.due("texts", x.count(3), 6);
        for (int t = 5; t > 0; t--) {
            x.force(t);
            Check.due("each its own", x.asks(0, 0, 0, 0), t);
        }
        x.force(0);
        Check.due("the first", x.asks(0, 0, 0, 0), 32);
        Check.due("the first", x.asks(1, 0, 0, 0), 10);
        Check.due("the first", x.asks(2, 0, 0, 0), 5);
    }

    private static void forcing() {
        LaughterIsMinted x = one();
        Check.due("none such", x.force(1), -2);
        Check.due("none such", x.force(-1), -2);
        Check.read(x, "yields 1;fades 1;minds 1;");
        Check.due("which was", x.force(1), 0);
        Check.due("which is", x.count(4), 1);
        Check.due("which was", x.force(0), 1);
        Check.due("none such", x.force(2), -2);
        Check.due("as it was", x.count(4), 0);
    }

    private static void asking() {
        LaughterIsMinted x = one();
        Check.due("yields", x.asks(0, 0, 0, 0), 32);
        Check.due("edges", x.asks(0, 99, 0, 9), 32);
        Check.due("part", x.asks(3, 0, 0, 0), -2);
        Check.due("part", x.asks(-1, 0, 0, 0), -2);
        Check.due("times", x.asks(0, 100, 0, 0), -2);
        Check.due("times", x.asks(0, -1, 0, 0), -2);
        Check.due("hearer", x.asks(0, 0, 1, 0), -2);
        Check.due("hearer", x.asks(0, 0, -1, 0), -2);
        Check.due("more", x.asks(0, 0, 0, 10), -2);
        Check.due("more", x.asks(0, 0, 0, -1), -2);
    }
}
