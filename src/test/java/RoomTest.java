import com.sun.management.ThreadMXBean;
import java.lang.management.ManagementFactory;

/** No call makes an object: what a run makes is made with its objects, each of some 2400 elements (LANGUAGE.md, 12). */
public final class RoomTest {
    private static final int TIMES = 40;
    // what the counting itself may make
    private static final long SLACK = 2000;
    private static final long OBJECT_MOST = 24_000;

    private static final Edges.Call[] CALLS = {
        x -> x.count(0), x -> x.feed(5, 'y', 'i', 'e', 'l', 'd'), x -> x.text(), x -> x.force(0), x -> x.asks(0, 3, 1, 2),
        x -> x.joke(0, 0), x -> x.told(0, 0), x -> x.hearer(0, 1), x -> x.set(0, 2, 6), x -> x.of(0, 0),
        x -> x.yields(4, 5), x -> x.tell(4, 5), x -> x.pay(5, 0, 1), x -> x.fades(5), x -> x.night(),
        x -> x.friday(3, -1), x -> x.greedy(20, 0), x -> x.mine(3, 0, 0), x -> x.round(0), x -> x.last(0),
        x -> x.caught(1, 9), x -> x.panic(1, 0), x -> x.seeds(0), x -> x.stop(1, 0), x -> x.spread(0, 1, 20),
        x -> x.through(0, 0), x -> x.origin(0, 63, 20), x -> x.furthest(0, 20, 0), x -> x.rate(0, 1, 999),
        x -> x.change(0, 1, 9999), x -> x.gain(0, 9999, 0), x -> x.judge(0, 0), x -> x.humours(0, 0),
        x -> x.heards(0, 0, 0), x -> x.kinds(0, 0, 0), x -> x.wear(0, 0, 0), x -> x.whose(0), x -> x.laws(0, 0),
        x -> x.amiss(0, 0), x -> x.film(0, 0), x -> x.drawn(7, 50), x -> x.odds(7, 5050, 300, 0), x -> x.image(),
        x -> x.back(), x -> x.sheet(1, 2, 40), x -> x.cell(1, 39, 7), x -> x.copy(1, 0, 1, 1, 39),
        x -> x.jokesBy(1, 2, 0, 5), x -> x.taken(0, 0)};

    private final ThreadMXBean counter = (ThreadMXBean) ManagementFactory.getThreadMXBean();

    public static void main(String[] args) {
        RoomTest test = new RoomTest();
        test.object();
        test.calls();
        Check.end("RoomTest");
    }

    private long made() {
        return counter.getThreadAllocatedBytes(Thread.currentThread().getId());
    }

    private void object() {
        new LaughterIsMinted();
        made();
        long before = made();
        LaughterIsMinted x = new LaughterIsMinted();
        long bytes = made() - before;
        Check.so("an object of " + bytes + " bytes", bytes > 0 && bytes < OBJECT_MOST && x.count(0) == 0);
    }

    private void calls() {
        LaughterIsMinted x = Edges.crowd();
        x.film(0, 0);
        for (int k = 0; k < CALLS.length; k++) {
            Edges.Call call = CALLS[k];
            call.on(x);
            made();
            long before = made();
            for (int time = 0; time < TIMES; time++) {
                call.on(x);
            }
            long bytes = made() - before;
            Check.so("call " + k + " made " + bytes + " bytes", bytes < SLACK);
        }
    }
}
