/** Promises 7 to 11: joke, told, hearer, set, of. */
public final class JokesHearersTest {
    public static void main(String[] args) {
        jokes();
        hearers();
        setting();
        refusedSetting();
        Check.end("JokesHearersTest");
    }

    private static void jokes() {
        LaughterIsMinted x = new LaughterIsMinted();
        Check.due("kind", x.joke(-1, 0), -2);
        Check.due("kind", x.joke(6, 0), -2);
        Check.due("more", x.joke(0, -1), -2);
        Check.due("more", x.joke(0, 10), -2);
        Check.due("none came", x.count(0), 0);
        int[] kinds = {0, 1, 2, 3, 4};
        int[] on = {1, 2, 1, 2, 0};
        for (int j = 0; j < 5; j++) {
            Check.due("joke", x.joke(kinds[j], 9 - j), j);
            Check.due("count", x.count(0), j + 1);
        }
        for (int j = 0; j < 5; j++) {
            Check.due("kind", x.told(j, 0), kinds[j]);
            Check.due("more", x.told(j, 1), 9 - j);
            Check.due("worn", x.told(j, 2), 0);
            Check.due("on", x.told(j, 3), on[j]);
        }
        Check.due("what", x.told(0, 4), -7);
        Check.due("what", x.told(0, -1), -7);
        Check.due("none such", x.told(5, 0), -5);
        Check.due("none such", x.told(-1, 9), -5);
        Check.due("full", x.joke(0, 0), -4);
        Check.due("bad ahead", x.joke(6, 0), -2);
        Check.due("bad ahead", x.joke(0, 10), -2);
        int[] borrowedOn = {1, 1, 1, 2, 2, 2, 3, 3, 3, 4};
        for (int more = 0; more <= 9; more++) {
            LaughterIsMinted y = new LaughterIsMinted();
            y.joke(5, more);
            Check.due("borrowed on", y.told(0, 3), borrowedOn[more]);
        }
    }

    private static void hearers() {
        LaughterIsMinted x = new LaughterIsMinted();
        Check.due("fun", x.hearer(-1, 1), -2);
        Check.due("fun", x.hearer(10, 1), -2);
        Check.due("from", x.hearer(0, 0), -2);
        Check.due("from", x.hearer(0, 10), -2);
        Check.due("none such", x.of(0, 0), -5);
        for (int h = 0; h < 6; h++) {
            Check.due("hearer", x.hearer(9 - h, h == 5 ? 9 : h + 1), h);
        }
        Check.due("count", x.count(1), 6);
        Check.due("full", x.hearer(0, 1), -4);
        Check.due("bad ahead", x.hearer(0, 0), -2);
        for (int h = 0; h < 6; h++) {
            Check.due("humour", x.of(h, 0), 9 - h);
            Check.due("purse", x.of(h, 1), 0);
            Check.due("friends", x.of(h, 2), 0);
            Check.due("heard", x.of(h, 3), 0);
            Check.due("catches", x.of(h, 4), h == 5 ? 9 : h + 1);
        }
        Check.due("what", x.of(0, 5), -7);
        Check.due("what", x.of(0, -1), -7);
        Check.due("none such", x.of(6, 0), -5);
        Check.due("none such", x.of(-1, 7), -5);
    }

    private static void setting() {
        LaughterIsMinted x = new LaughterIsMinted();
        x.joke(0, 0);
        x.joke(0, 0);
        x.hearer(3, 4);
        x.hearer(5, 6);
        x.hearer(7, 8);
        int[] first = {5, 0, 0, 0, 6};
        int[] then = {9, 9999, 5, 3, 9};
        int[] last = {0, 0, 1, 2, 1};
        for (int what = 0; what < 5; what++) {
            Check.due("what it was", x.set(1, what, then[what]), first[what]);
            Check.due("what it is", x.of(1, what), then[what]);
            Check.due("what it was then", x.set(1, what, last[what]), then[what]);
            Check.due("what it is then", x.of(1, what), last[what]);
        }
        Check.due("of others", x.of(0, 0), 3);
        Check.due("of others", x.of(2, 0), 7);
        Check.due("of others", x.of(0, 1), 0);
        Check.due("of others", x.of(2, 4), 8);
    }

    private static void refusedSetting() {
        LaughterIsMinted x = new LaughterIsMinted();
        x.joke(0, 0);
        x.joke(0, 0);
        x.hearer(3, 4);
        x.hearer(5, 6);
        int[][] bad = {{0, -1}, {0, 10}, {1, -1}, {1, 10000}, {2, 1}, {2, 3}, {2, 4}, {2, -2}, {3, -1}, {3, 4},
            {4, 0}, {4, 10}, {5, 0}, {-1, 0}, {2, 2 + 1024}, {3, Integer.MIN_VALUE}};
        for (int[] b : bad) {
            Check.due("set " + b[0] + " " + b[1], x.set(0, b[0], b[1]), -7);
        }
        int[] as = {3, 0, 0, 0, 4};
        for (int what = 0; what < 5; what++) {
            Check.due("as it was", x.of(0, what), as[what]);
        }
        Check.due("friend", x.set(0, 2, 2), 0);
        Check.due("oneself", x.set(1, 2, 2), -7);
        Check.due("none such", x.set(2, 0, 0), -5);
        Check.due("none such", x.set(-1, 9, 0), -5);
        x.hearer(0, 1);
        Check.due("a friend who came", x.set(0, 2, 6), 2);
        x.joke(1, 1);
        Check.due("a joke that came", x.set(0, 3, 7), 0);
    }
}
