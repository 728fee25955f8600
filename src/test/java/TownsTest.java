/** Promises 30 to 32: rate, change, gain. */
public final class TownsTest {
    public static void main(String[] args) {
        rates();
        changes();
        noGain();
        gains();
        likeOnes();
        cutEachTime();
        large();
        refused();
        Check.end("TownsTest");
    }

    private static void rates() {
        LaughterIsMinted x = new LaughterIsMinted();
        for (int a = 0; a < 4; a++) {
            for (int b = 0; b < 4; b++) {
                Check.due("at first", x.rate(a, b, 10 * a + b + 1), a == b ? -5 : 100);
            }
        }
        for (int a = 0; a < 4; a++) {
            for (int b = 0; b < 4; b++) {
                Check.due("then", x.rate(a, b, 1), a == b ? -5 : 10 * a + b + 1);
            }
        }
        Check.due("none such", x.rate(4, 0, 0), -5);
        Check.due("none such", x.rate(0, 4, 0), -5);
        Check.due("none such", x.rate(-1, 0, 1), -5);
        Check.due("none such", x.rate(0, -1, 1), -5);
        Check.due("v", x.rate(0, 1, 0), -7);
        Check.due("v", x.rate(0, 1, 1000), -7);
        Check.due("edge", x.rate(0, 1, 999), 1);
        Check.due("edge", x.rate(0, 1, 100), 999);
    }

    private static void changes() {
        LaughterIsMinted x = new LaughterIsMinted();
        x.rate(1, 2, 150);
        x.rate(2, 1, 33);
        Check.due("times rate", x.change(1, 2, 101), 151);
        Check.due("back", x.change(2, 1, 100), 33);
        Check.due("cut", x.change(2, 1, 10), 3);
        Check.due("itself", x.change(1, 1, 77), 77);
        Check.due("at first", x.change(0, 3, 9999), 9999);
        Check.due("nothing", x.change(1, 2, 0), 0);
        x.rate(3, 0, 999);
        Check.due("most", x.change(3, 0, 9999), 99890);
    }

    private static void noGain() {
        LaughterIsMinted x = new LaughterIsMinted();
        for (int a = 0; a < 4; a++) {
            Check.due("none", x.gain(a, 500, 0), 0);
            Check.due("as it was", x.gain(a, 500, 1), 500);
        }
        x.rate(0, 1, 999);
        Check.due("of nothing", x.gain(0, 0, 0), 0);
        Check.due("of nothing", x.gain(0, 0, 1), 0);
    }

    private static void gains() {
        LaughterIsMinted x = new LaughterIsMinted();
        x.rate(0, 1, 200);
        x.rate(1, 0, 60);
        Check.due("the first of like ones", x.gain(0, 1000, 0), 23);
        Check.due("how much", x.gain(0, 1000, 1), 2000);
        x.rate(1, 2, 50);
        x.rate(1, 3, 50);
        Check.due("one other", x.gain(0, 1000, 0), 2);
        Check.due("how much", x.gain(0, 1000, 1), 1200);
        x.rate(1, 3, 80);
        x.rate(3, 0, 90);
        Check.due("by a fourth", x.gain(0, 1000, 0), 243);
        Check.due("how much", x.gain(0, 1000, 1), 1600);
        x.rate(3, 0, 120);
        Check.due("two others", x.gain(0, 1000, 0), 24);
        Check.due("how much", x.gain(0, 1000, 1), 1920);
        x.rate(3, 2, 150);
        x.rate(2, 0, 130);
        Check.due("three others", x.gain(0, 1000, 0), 243);
        Check.due("how much", x.gain(0, 1000, 1), 2 * 80 * 15 * 13 / 10);
        Check.due("from another", x.gain(3, 1000, 0), 312);
        Check.due("how much", x.gain(3, 1000, 1), 3120);
    }

    private static void likeOnes() {
        LaughterIsMinted x = new LaughterIsMinted();
        x.rate(2, 0, 200);
        Check.due("back to 2 ahead of on to 3", x.gain(2, 10, 0), 12);
        x.rate(1, 2, 50);
        Check.due("on to 3 ahead of back from 0", x.gain(2, 10, 0), 124);
        x.rate(3, 2, 50);
        Check.due("back from 0", x.gain(2, 10, 0), 1);
        x.rate(0, 2, 50);
        Check.due("none", x.gain(2, 10, 0), 0);
        x.rate(3, 2, 100);
        Check.due("back from 3, by 0 and 1", x.gain(2, 10, 0), 124);
        LaughterIsMinted w = new LaughterIsMinted();
        w.rate(1, 0, 200);
        Check.due("back to 1 ahead of on to 2", w.gain(1, 10, 0), 1);
        LaughterIsMinted y = new LaughterIsMinted();
        y.rate(0, 1, 200);
        Check.due("back to 0 ahead of all", y.gain(0, 10, 0), 2);
        Check.due("back to 3 behind on to 2", y.gain(3, 10, 0), 123);
        LaughterIsMinted z = new LaughterIsMinted();
        z.rate(3, 0, 200);
        Check.due("back to 3 behind all", z.gain(3, 10, 0), 123);
        Check.due("how much", z.gain(3, 10, 1), 20);
    }

    private static void cutEachTime() {
        LaughterIsMinted x = new LaughterIsMinted();
        x.rate(0, 1, 150);
        x.rate(1, 0, 150);
        x.rate(1, 2, 1);
        x.rate(1, 3, 1);
        Check.due("5 7 10", x.gain(0, 5, 1), 10);
        Check.due("1 1 1", x.gain(0, 1, 0), 0);
        Check.due("1 1 1", x.gain(0, 1, 1), 1);
    }

    private static void large() {
        LaughterIsMinted x = new LaughterIsMinted();
        for (int a = 0; a < 4; a++) {
            for (int b = 0; b < 4; b++) {
                x.rate(a, b, 999);
            }
        }
        long much = 9999;
        for (int k = 0; k < 4; k++) {
            much = much * 999 / 100;
        }
        Check.due("more than an int holds on the way", x.gain(0, 9999, 1), much);
        Check.due("the first of three others", x.gain(0, 9999, 0), 234);
    }

    private static void refused() {
        LaughterIsMinted x = new LaughterIsMinted();
        long no = -4611686018427387904L;
        for (int bad : new int[] {-1, 4, Integer.MIN_VALUE}) {
            Check.due("change", x.change(bad, 0, 1), no);
            Check.due("change", x.change(0, bad, 1), no);
            Check.due("gain", x.gain(bad, 1, 0), no);
        }
        for (int bad : new int[] {-1, 10000}) {
            Check.due("much", x.change(0, 1, bad), no);
            Check.due("much", x.change(1, 1, bad), no);
            Check.due("much", x.gain(0, bad, 0), no);
        }
        Check.due("what", x.gain(0, 1, -1), no);
        Check.due("what", x.gain(0, 1, 2), no);
    }
}
