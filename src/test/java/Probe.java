import java.util.ArrayList;
import java.util.List;
import java.util.function.Supplier;

/**
 * All that an object answers of what it holds: two objects that hold the same answer alike, and two that do not,
 * otherwise. What is held is told by calls that change it, too: so the object is made anew for each part.
 */
final class Probe {
    // as many numbers of a SHEET as are looked at from its begin on; the last one is looked at, too
    private static final int CELLS = 6;

    private final LaughterIsMinted x;
    private final List<Long> answers;

    private Probe(LaughterIsMinted x, List<Long> answers) {
        this.x = x;
        this.answers = answers;
    }

    static List<Long> of(Supplier<LaughterIsMinted> made) {
        List<Long> answers = new ArrayList<>();
        Probe first = new Probe(made.get(), answers);
        first.world();
        first.image();
        new Probe(made.get(), answers).texts();
        for (int s = 0; s < 4; s++) {
            new Probe(made.get(), answers).sheet(s);
        }
        return answers;
    }

    private void add(long answer) {
        answers.add(answer);
    }

    private void world() {
        for (int what = 0; what < 6; what++) {
            add(x.count(what));
        }
        for (int j = 0; j < x.count(0); j++) {
            for (int what = 0; what < 4; what++) {
                add(x.told(j, what));
            }
        }
        for (int h = 0; h < x.count(1); h++) {
            for (int what = 0; what < 5; what++) {
                add(x.of(h, what));
            }
        }
        for (int a = 0; a < 16; a++) {
            add(x.change(a / 4, a % 4, 100));
        }
    }

    private void image() {
        int jokes = x.back();
        add(jokes);
        if (jokes >= 0) {
            world();
        }
    }

    /** THE TAPE as a TEXT, then what all TEXTS say. */
    private void texts() {
        someone();
        add(x.text());
        for (int t = 0; t < x.count(3); t++) {
            x.force(t);
            for (int part = 0; part < 3; part++) {
                add(x.asks(part, 7, 0, 3));
            }
        }
    }

    private void someone() {
        if (x.count(0) == 0) {
            x.joke(3, 0);
        }
        if (x.count(1) == 0) {
            x.hearer(0, 1);
        }
    }

    private void sheet(int s) {
        int sort = -1;
        for (int k = 0; k < 3; k++) {
            sort = x.jokesBy(s, k, 0, 0) == 0 ? k : sort;
        }
        add(sort);
        int size = 0;
        while (sort >= 0 && size < 41 && x.copy(s, 0, s, 0, size + 1) > 0) {
            size++;
        }
        add(size);
        someone();
        x.force(0);
        x.set(0, 3, 0);
        for (int i = 0; i < size; i++) {
            if (i < CELLS || i == size - 1) {
                cell(s, sort, i);
            }
        }
    }

    /** How far a number is from what the first JOKE yields of one of HUMOUR 0, then 9. */
    private void cell(int s, int sort, int i) {
        int scratch = (s + 1) % 4;
        x.sheet(scratch, sort, x.count(0));
        add(x.copy(s, i, scratch, 0, 1));
        for (int humour = 0; humour < 10; humour += 9) {
            x.set(0, 0, humour);
            add(x.amiss(scratch, 0));
        }
    }
}
