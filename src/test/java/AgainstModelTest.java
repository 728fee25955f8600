import java.util.Random;

/** Runs of calls drawn by number, each answered by the class and by the Model alike. */
public final class AgainstModelTest {
    private static final String[] WORDS = {"yields", "fades", "minds", "or", "and", "not", "told", "humour", "more", "day",
        "purse", "hearer", "(", ")", ";", "+", "-", "*", "<", "=", "7", "12", "9999", "00012", "x", "?", " ", "\n", "told",
        "humour", "purse", "0"};

    private final Random random;
    private final LaughterIsMinted x = new LaughterIsMinted();
    private final Model m = new Model();

    private AgainstModelTest(int seed) {
        random = new Random(seed);
    }

    public static void main(String[] args) {
        int runs = args.length > 0 ? Integer.parseInt(args[0]) : 400;
        for (int seed = 0; seed < runs; seed++) {
            new AgainstModelTest(seed).run();
        }
        Check.end("AgainstModelTest");
    }

    private void run() {
        boolean town = random.nextInt(6) > 0;
        if (town) {
            settle();
        }
        for (int k = 0; k < 430; k++) {
            call(random.nextInt(50));
        }
    }

    /** Most runs begin with jokes, hearers, friends, laws. */
    private void settle() {
        int jokes = random.nextInt(6);
        for (int j = 0; j < jokes; j++) {
            call(6);
        }
        int hearers = random.nextInt(7);
        for (int h = 0; h < hearers; h++) {
            call(8);
        }
        for (int h = 0; h < hearers; h++) {
            int v = random.nextInt(64) & random.nextInt(127) & ~(1 << h);
            Check.due("set", x.set(h, 2, v), m.set(h, 2, v));
        }
        int texts = random.nextInt(3);
        for (int t = 0; t < texts; t++) {
            sound();
        }
    }

    private String expression(int depth) {
        int r = random.nextInt(depth > 3 ? 6 : 14);
        if (r < 4) {
            return WORDS[6 + random.nextInt(6)];
        }
        if (r < 6) {
            return "" + random.nextInt(random.nextBoolean() ? 60 : 10000);
        }
        if (r == 6) {
            return "(" + expression(depth + 1) + ")";
        }
        if (r == 7) {
            return "-" + expression(depth + 1);
        }
        if (r == 8) {
            return "not " + expression(depth + 1);
        }
        String[] signs = {"+", "-", "*", "<", "=", " or ", " and "};
        return expression(depth + 1) + signs[random.nextInt(7)] + expression(depth + 1);
    }

    private void feed(String text) {
        for (int i = 0; i < text.length(); i += 5) {
            int[] b = new int[5];
            int n = Math.min(5, text.length() - i);
            for (int k = 0; k < n; k++) {
                b[k] = text.charAt(i + k);
            }
            Check.due("feed", x.feed(n, b[0], b[1], b[2], b[3], b[4]), m.feed(n, b));
        }
    }

    private void sound() {
        String text = "yields " + (random.nextBoolean() ? "30+" : "") + expression(1) + ";fades " + expression(2)
            + ";minds " + expression(2) + ";";
        if (random.nextInt(3) == 0) {
            int at = random.nextInt(text.length());
            text = text.substring(0, at) + WORDS[random.nextInt(WORDS.length)] + text.substring(at + random.nextInt(2));
        }
        feed(text);
        int t = m.text();
        Check.due("text: " + text, x.text(), t);
        if (t > 0) {
            Check.due("force", x.force(t), m.force(t));
        }
    }

    /** Mostly of a range, now and then a little or far outside. */
    private int r(int least, int most) {
        int r = random.nextInt(40);
        if (r == 0) {
            return least - 1;
        }
        if (r == 1) {
            return most + 1;
        }
        if (r == 2) {
            int[] far = {Integer.MIN_VALUE, Integer.MAX_VALUE, -1, 0, 1, 100000, -5000, Integer.MAX_VALUE - 1, 1 << 30};
            return far[random.nextInt(far.length)];
        }
        return least + random.nextInt(Math.max(0, most - least) + 1);
    }

    private int r(int most) {
        return r(0, most);
    }

    private int joke() {
        return r(Math.max(0, x.count(0) - 1));
    }

    private int hearer() {
        return r(Math.max(0, x.count(1) - 1));
    }

    private int bits() {
        return r((1 << x.count(1)) - 1);
    }

    private void film(int s) {
        int h = hearer();
        Check.due("film", x.film(s, h), m.film(s, h));
        if (random.nextInt(3) == 0 && x.count(0) > 0) {
            int i = random.nextInt(x.count(0));
            int v = random.nextInt(100);
            Check.due("cell", x.cell(s, i, v), m.cell(s, i, v));
        }
    }

    private void call(int which) {
        if (which < 12) {
            lawsAndHearers(which);
        } else if (which < 25) {
            tellings(which);
        } else if (which < 33) {
            goingOn(which);
        } else if (which < 42) {
            toldLaughs(which);
        } else {
            hosts(which);
        }
    }

    private void lawsAndHearers(int which) {
        int a = 0;
        int b = 0;
        switch (which) {
            case 0: a = r(5); Check.due("count " + a, x.count(a), m.count(a)); break;
            case 1: {
                int[] f = {r(255), r(255), r(255), r(255), r(255)};
                a = r(1, 5);
                Check.due("feed", x.feed(a, f[0], f[1], f[2], f[3], f[4]), m.feed(a, f));
                break;
            }
            case 2: Check.due("text", x.text(), m.text()); break;
            case 3: a = r(x.count(3) - 1); Check.due("force", x.force(a), m.force(a)); break;
            case 4: {
                int part = r(2);
                a = r(99);
                b = hearer();
                int more = r(9);
                Check.due("asks", x.asks(part, a, b, more), m.asks(part, a, b, more));
                break;
            }
            case 5: if (random.nextInt(3) == 0) sound(); else feed(WORDS[random.nextInt(WORDS.length)]); break;
            case 6: a = r(5); b = r(9); Check.due("joke", x.joke(a, b), m.joke(a, b)); break;
            case 7: a = joke(); b = r(3); Check.due("told", x.told(a, b), m.told(a, b)); break;
            case 8: a = r(9); b = r(1, random.nextInt(3) == 0 ? 9 : 3);
                Check.due("hearer", x.hearer(a, b), m.hearer(a, b)); break;
            case 9: case 10: {
                a = hearer();
                b = r(4);
                int[] most = {9, 9999, 63, 31, 9};
                int v = r(b >= 0 && b < 5 ? most[b] : 9);
                if (b == 2) {
                    v &= v < 0 ? -1 : bits();
                } else if (b == 3 && v >= 0) {
                    v &= (1 << x.count(0)) - 1;
                }
                Check.due("set", x.set(a, b, v), m.set(a, b, v));
                break;
            }
            default: a = hearer(); b = r(4); Check.due("of", x.of(a, b), m.of(a, b)); break;
        }
    }

    private void tellings(int which) {
        int a = joke();
        int b = hearer();
        int c = 0;
        switch (which) {
            case 12: Check.due("yields", x.yields(a, b), m.yields(a, b)); break;
            case 13: case 14: Check.due("tell", x.tell(a, b), m.tell(a, b)); break;
            case 15: a = hearer(); c = r(random.nextBoolean() ? 9999 : 50);
                Check.due("pay", x.pay(a, b, c), m.pay(a, b, c)); break;
            case 16: Check.due("fades", x.fades(b), m.fades(b)); break;
            case 17: if (random.nextInt(3) == 0) Check.due("night", x.night(), m.night()); break;
            case 18: a = r(1, random.nextInt(60) == 0 ? 3 : 2); b = r(-1, a > 0 && a < 4 ? a - 1 : 2);
                if (a < 3 || x.count(0) * x.count(1) < 20) Check.due("friday " + a + " " + b, x.friday(a, b), m.friday(a, b));
                break;
            case 19: a = r(1, 20); b = r(1); Check.due("greedy " + a + " " + b, x.greedy(a, b), m.greedy(a, b)); break;
            case 20: c = r(99); Check.due("mine", x.mine(a, b, c), m.mine(a, b, c)); break;
            case 21: c = r(1); Check.due("round", x.round(c), m.round(c)); break;
            case 22: Check.due("last", x.last(a), m.last(a)); break;
            case 23: a = r(99999); b = r(50); Check.due("drawn", x.drawn(a, b), m.drawn(a, b)); break;
            default: {
                a = r(99999);
                b = r(8) * 100 + r(1, 50);
                c = r(random.nextBoolean() ? 200 : 9999);
                int d = r(1);
                Check.due("odds " + a + " " + b + " " + c, x.odds(a, b, c, d), m.odds(a, b, c, d));
            }
        }
    }

    private void goingOn(int which) {
        int a = joke();
        int b = bits();
        int c = r(20);
        switch (which) {
            case 25: c = r(9); Check.due("caught", x.caught(b, c), m.caught(b, c)); break;
            case 26: c = r(1); Check.due("panic", x.panic(b, c), m.panic(b, c)); break;
            case 27: c = r(1); Check.due("seeds", x.seeds(c), m.seeds(c)); break;
            case 28: c = r(6); Check.due("stop " + b + " " + c, x.stop(b, c), m.stop(b, c)); break;
            case 29: Check.due("spread", x.spread(a, b, c), m.spread(a, b, c)); break;
            case 30: b = hearer(); Check.due("through", x.through(a, b), m.through(a, b)); break;
            case 31: {
                int have = random.nextBoolean() ? b : m.spread(a, 1 << random.nextInt(6), c);
                Check.due("origin", x.origin(a, have, c), m.origin(a, have, c));
                break;
            }
            default: c = r(5); b = r(1); Check.due("furthest", x.furthest(a, c, b), m.furthest(a, c, b)); break;
        }
    }

    private void toldLaughs(int which) {
        int s = r(3);
        int h = hearer();
        if (s >= 0 && s < 4 && random.nextInt(4) > 0) {
            film(s);
        }
        int c = joke() * 10 + r(1);
        switch (which) {
            case 33: Check.due("judge", x.judge(s, h), m.judge(s, h)); break;
            case 34: Check.due("humours", x.humours(s, h), m.humours(s, h)); break;
            case 35: c = r(2); Check.due("heards", x.heards(s, h, c), m.heards(s, h, c)); break;
            case 36: Check.due("kinds", x.kinds(s, h, c), m.kinds(s, h, c)); break;
            case 37: Check.due("wear", x.wear(s, h, c), m.wear(s, h, c)); break;
            case 38: Check.due("whose", x.whose(s), m.whose(s)); break;
            case 39: Check.due("laws", x.laws(s, h), m.laws(s, h)); break;
            case 40: Check.due("amiss", x.amiss(s, h), m.amiss(s, h)); break;
            default: film(s); break;
        }
    }

    private void hosts(int which) {
        int a = r(3);
        int b = r(3);
        int c = r(random.nextBoolean() ? 999 : 200);
        switch (which) {
            case 42: Check.due("rate", x.rate(a, b, c), m.rate(a, b, c)); break;
            case 43: Check.due("change", x.change(a, b, c), m.change(a, b, c)); break;
            case 44: b = r(1); c = r(9999); Check.due("gain", x.gain(a, c, b), m.gain(a, c, b)); break;
            case 45: if (random.nextInt(3) == 0) Check.due("image", x.image(), m.image());
                else if (random.nextInt(2) == 0) Check.due("back", x.back(), m.back()); break;
            case 46: b = r(-1, 2); c = r(random.nextBoolean() ? 40 : 6); Check.due("sheet", x.sheet(a, b, c), m.sheet(a, b, c));
                break;
            case 47: b = r(8); c = random.nextBoolean() ? r(9) : random.nextInt();
                Check.due("cell", x.cell(a, b, c), m.cell(a, b, c)); break;
            case 48: {
                int i = r(5);
                int j = r(5);
                c = r(6);
                Check.due("copy", x.copy(a, i, b, j, c), m.copy(a, i, b, j, c));
                break;
            }
            default: {
                b = r(2);
                c = r(8);
                int n = r(5);
                Check.due("jokesBy", x.jokesBy(a, b, c, n), m.jokesBy(a, b, c, n));
                c = r(10);
                n = r(6);
                Check.due("taken", x.taken(c, n), m.taken(c, n));
            }
        }
    }
}
