import java.lang.reflect.Method;
import java.lang.reflect.Modifier;
import java.util.Arrays;
import java.util.Comparator;
import java.util.function.Supplier;

/**
 * Runs the tests of sentences that name an edge, each of them a method of its own: its name begins with promise and
 * two digits. What an edge of the Terms is about stands with the promise by which it shows.
 */
final class Edges {
    static final int BIG = Integer.MAX_VALUE, SMALL = Integer.MIN_VALUE;
    static final long NO = -4611686018427387904L;

    interface Call {
        long on(LaughterIsMinted x);
    }

    private Edges() {
    }

    /** All tests of a class; each promise from the first to the last one must have some. */
    static void run(Class<?> tests, int first, int last) throws Exception {
        Method[] all = tests.getDeclaredMethods();
        Arrays.sort(all, Comparator.comparing(Method::getName));
        int[] many = new int[last + 1];
        for (Method test : all) {
            if (test.getName().startsWith("promise") && Modifier.isStatic(test.getModifiers())) {
                many[Integer.parseInt(test.getName().substring(7, 9))]++;
                test.setAccessible(true);
                Check.in(test.getName());
                test.invoke(null);
            }
        }
        for (int promise = first; promise <= last; promise++) {
            Check.so("tests of promise " + promise, many[promise] > 0);
        }
        Check.end(tests.getName());
    }

    /** Each call answers what is due, and the object holds then what it held. */
    static void stays(Supplier<LaughterIsMinted> made, long due, Call... calls) {
        for (int k = 0; k < calls.length; k++) {
            Call call = calls[k];
            Check.due("call " + k, call.on(made.get()), due);
            Check.so("call " + k + " changes nothing", Probe.of(made).equals(Probe.of(() -> {
                LaughterIsMinted x = made.get();
                call.on(x);
                return x;
            })));
        }
    }

    /** Each call is refused so by busy(), and changes nothing. */
    static void refused(long due, Call... calls) {
        stays(Edges::busy, due, calls);
    }

    /** Three JOKES, three HEARERS, a SHEET of each sort, SHEET 3 missing; nothing is as it was at first. */
    static LaughterIsMinted busy() {
        LaughterIsMinted x = new LaughterIsMinted();
        x.force(Check.read(x, "yields 20+humour*3-told;fades day+9;minds 2;"));
        x.joke(0, 0);
        x.joke(1, 4);
        x.joke(4, 9);
        x.hearer(3, 1);
        x.hearer(5, 2);
        x.hearer(9, 1);
        x.set(0, 2, 2);
        x.set(1, 2, 5);
        x.set(2, 2, 3);
        x.image();
        x.tell(0, 0);
        x.tell(2, 1);
        x.set(2, 1, 9990);
        x.rate(0, 1, 150);
        x.rate(3, 2, 77);
        x.night();
        Check.sheet(x, 0, 0, 29, 5, -1);
        Check.sheet(x, 1, 1, 0, 3, 300, -7);
        Check.sheet(x, 2, 2, 3, 4, 70000);
        x.feed(3, 'y', 'i', 'e', 0, 0);
        return x;
    }

    static LaughterIsMinted empty() {
        return new LaughterIsMinted();
    }

    /** As many JOKES and HEARERS as there can be: a JOKE of each KIND but the last, HUMOURS 0 to 5. */
    static LaughterIsMinted crowd() {
        LaughterIsMinted x = new LaughterIsMinted();
        for (int j = 0; j < 5; j++) {
            x.joke(j, j);
        }
        for (int h = 0; h < 6; h++) {
            x.hearer(h, 1);
        }
        return x;
    }

    static LaughterIsMinted jokesAlone() {
        LaughterIsMinted x = new LaughterIsMinted();
        x.joke(0, 0);
        return x;
    }

    static LaughterIsMinted hearersAlone() {
        LaughterIsMinted x = new LaughterIsMinted();
        x.hearer(0, 1);
        return x;
    }

    /** One JOKE, and as many HEARERS as there are FRIENDS told of: bits for each of them. */
    static LaughterIsMinted town(int kind, int more, int... friends) {
        LaughterIsMinted x = new LaughterIsMinted();
        x.joke(kind, more);
        for (int h = 0; h < friends.length; h++) {
            x.hearer(0, 1);
        }
        for (int h = 0; h < friends.length; h++) {
            Check.due("friends", x.set(h, 2, friends[h]), 0);
        }
        return x;
    }

    /** One JOKE, one HEARER. */
    static LaughterIsMinted pair(int kind, int more, int humour) {
        LaughterIsMinted x = new LaughterIsMinted();
        x.joke(kind, more);
        x.hearer(humour, 1);
        return x;
    }

    /** One JOKE, one HEARER, and what a laugh is worth. */
    static LaughterIsMinted pairBy(int kind, int more, String yields) {
        LaughterIsMinted x = pair(kind, more, 0);
        law(x, yields, "0", "1");
        return x;
    }

    static void law(LaughterIsMinted x, String yields, String fades, String minds) {
        x.force(Check.read(x, "yields " + yields + ";fades " + fades + ";minds " + minds + ";"));
    }
}
