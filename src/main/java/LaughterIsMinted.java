/** Laughter is minted: jokes that wear, hearers with purses, laws by text, towns with rates. See README.md. */
public final class LaughterIsMinted {
    public static final int NONE = -1, BAD = -2, STATE = -3, FULL = -4;
    public static final long NO = -4611686018427387904L;

    private static final int NO_FIRST = -5, NO_SECOND = -6, NOT_AS_TOLD = -7;
    private static final int MISSING = -11, OUTSIDE = -12, OTHER_SORT = -13, SIZE_BELOW = -14;
    private static final int JOKES_MOST = 5, HEARERS_MOST = 6, TEXTS_MOST = 6, TOWNS = 4, KINDS = 6;
    private static final int TAPE_MOST = 160, SHEETS = 4, CELLS_MOST = 40;
    private static final int PURSE_MOST = 9999, WORN_MOST = 99, DAY_MOST = 99;
    private static final int YIELDS_PART = 0, FADES_PART = 1, MINDS_PART = 2, PARTS = 3;
    private static final int FAULT_BASE = -100;
    private static final String FIRST_TEXT = "yields 20 + humour * 3 ; fades 10 ; minds 5 ;";

    private final LawBook book = new LawBook();
    private final Reader reader = new Reader();
    private final World now = new World(book);
    private final World thought = new World(book);
    private final World kept = new World(book);
    private boolean hasKept = false;
    private final Search search = new Search(thought);
    private final Rounds rounds = new Rounds(now);
    private final Sheets pages = new Sheets();

    public LaughterIsMinted() {
        for (int i = 0; i < FIRST_TEXT.length(); i++) {
            reader.put(FIRST_TEXT.charAt(i));
        }
        reader.read();
        book.keep(reader.code, reader.ends);
        reader.empty();
    }

    // ---- the law

    public int count(int what) {
        switch (what) {
            case 0: return now.jokeCount;
            case 1: return now.hearerCount;
            case 2: return now.day;
            case 3: return book.size;
            case 4: return now.law;
            case 5: return reader.size;
            default: return BAD;
        }
    }

    public int feed(int n, int a, int b, int c, int d, int e) {
        if (!within(n, 1, 5) || !isByte(a) || !isByte(b) || !isByte(c) || !isByte(d) || !isByte(e)) {
            return BAD;
        }
        if (reader.size + n > TAPE_MOST) {
            return FULL;
        }
        reader.put(a);
        if (n > 1) reader.put(b);
        if (n > 2) reader.put(c);
        if (n > 3) reader.put(d);
        if (n > 4) reader.put(e);
        return reader.size;
    }

    public int text() {
        if (book.size >= TEXTS_MOST) {
            return FULL;
        }
        boolean sound = reader.read();
        int place = reader.place();
        reader.empty();
        if (!sound) {
            return FAULT_BASE - place;
        }
        return book.keep(reader.code, reader.ends);
    }

    public int force(int t) {
        if (!within(t, 0, book.size - 1)) {
            return BAD;
        }
        int was = now.law;
        now.law = t;
        return was;
    }

    public int asks(int part, int times, int h, int more) {
        if (!within(part, 0, PARTS - 1) || !within(times, 0, WORN_MOST) || !now.hasHearer(h) || !within(more, 0, 9)) {
            return BAD;
        }
        return now.says(part, times, h, more);
    }

    // ---- jokes, hearers

    public int joke(int kind, int more) {
        return now.addJoke(kind, more);
    }

    public int told(int j, int what) {
        if (!now.hasJoke(j)) {
            return NO_FIRST;
        }
        switch (what) {
            case 0: return now.kind[j];
            case 1: return now.more[j];
            case 2: return now.worn[j];
            case 3: return Kinds.tellsOn(now.kind[j], now.more[j]);
            default: return NOT_AS_TOLD;
        }
    }

    public int hearer(int fun, int from) {
        if (!within(fun, 0, 9) || !within(from, 1, 9)) {
            return BAD;
        }
        if (now.hearerCount >= HEARERS_MOST) {
            return FULL;
        }
        return now.addHearer(fun, from);
    }

    public int set(int h, int what, int v) {
        if (!now.hasHearer(h)) {
            return NO_FIRST;
        }
        if (!mayBecome(h, what, v)) {
            return NOT_AS_TOLD;
        }
        int was = now.trait(h, what);
        now.become(h, what, v);
        return was;
    }

    private boolean mayBecome(int h, int what, int v) {
        switch (what) {
            case 0: return within(v, 0, 9);
            case 1: return within(v, 0, PURSE_MOST);
            case 2: return now.areHearers(v) && !hasBit(v, h);
            case 3: return within(v, 0, now.allJokes());
            case 4: return within(v, 1, 9);
            default: return false;
        }
    }

    public int of(int h, int what) {
        if (!now.hasHearer(h)) {
            return NO_FIRST;
        }
        return within(what, 0, 4) ? now.trait(h, what) : NOT_AS_TOLD;
    }

    // ---- tellings, nights

    public int yields(int j, int h) {
        int refused = refusedTelling(j, h);
        return refused != 0 ? refused : now.worth(j, h);
    }

    public int tell(int j, int h) {
        int refused = refusedTelling(j, h);
        return refused != 0 ? refused : now.telling(j, h);
    }

    private int refusedTelling(int j, int h) {
        if (!now.hasJoke(j)) {
            return NO_FIRST;
        }
        return now.hasHearer(h) ? 0 : NO_SECOND;
    }

    public int pay(int h, int other, int much) {
        if (!now.hasHearer(h) || !now.hasHearer(other) || h == other) {
            return NO_FIRST;
        }
        if (!within(much, 0, PURSE_MOST)) {
            return NOT_AS_TOLD;
        }
        if (now.purse[h] < much) {
            return STATE;
        }
        if (now.purse[other] + much > PURSE_MOST) {
            return FULL;
        }
        now.purse[h] -= much;
        now.purse[other] += much;
        return now.purse[h];
    }

    public int fades(int h) {
        return now.hasHearer(h) ? now.fading(h) : NO_FIRST;
    }

    public int night() {
        if (now.day >= DAY_MOST) {
            return FULL;
        }
        int sum = 0;
        for (int h = 0; h < now.hearerCount; h++) {
            int gone = now.fading(h);
            now.purse[h] -= gone;
            sum += gone;
        }
        now.day++;
        return sum;
    }

    // ---- till Friday

    public int friday(int n, int what) {
        if (!within(n, 1, Search.LEVELS) || !within(what, -1, n - 1)) {
            return BAD;
        }
        if (!now.canTell()) {
            return what < 0 ? 0 : NONE;
        }
        thought.copyFrom(now);
        search.start(n);
        return what < 0 ? search.best : search.bestAt(what);
    }

    public int greedy(int n, int what) {
        if (!within(n, 1, 20) || !within(what, 0, 1)) {
            return BAD;
        }
        if (!now.canTell()) {
            return what == 0 ? 0 : NONE;
        }
        thought.copyFrom(now);
        int first = thought.dearest();
        if (what == 1) {
            return first;
        }
        int sum = 0;
        for (int k = 0; k < n; k++) {
            int telling = thought.dearest();
            sum += thought.telling(telling / 10, telling % 10);
        }
        return sum;
    }

    public int mine(int j, int h, int much) {
        int refused = refusedTelling(j, h);
        if (refused != 0) {
            return refused;
        }
        if (!within(much, 0, 99)) {
            return NOT_AS_TOLD;
        }
        thought.copyFrom(now);
        for (int k = 0; k < 100; k++) {
            if (thought.telling(j, h) <= much) {
                return k;
            }
        }
        return NONE;
    }

    public int round(int what) {
        if (!within(what, 0, 1)) {
            return BAD;
        }
        int best = NONE;
        int most = NONE;
        for (int j = 0; j < now.jokeCount; j++) {
            int sum = toldToEach(j);
            if (sum > most) {
                most = sum;
                best = j;
            }
        }
        return what == 0 ? best : most;
    }

    private int toldToEach(int j) {
        thought.copyFrom(now);
        int sum = 0;
        for (int h = 0; h < thought.hearerCount; h++) {
            sum += thought.telling(j, h);
        }
        return sum;
    }

    public int last(int j) {
        if (!now.hasJoke(j)) {
            return NO_FIRST;
        }
        int best = NONE;
        int least = 0;
        for (int h = 0; h < now.hearerCount; h++) {
            int lost = now.worth(j, h) - worthBehindOthers(j, h);
            if (best == NONE || lost < least) {
                least = lost;
                best = h;
            }
        }
        return best;
    }

    private int worthBehindOthers(int j, int h) {
        thought.copyFrom(now);
        for (int k = h + 1; k < thought.hearerCount; k++) {
            thought.telling(j, k);
        }
        for (int k = 0; k < h; k++) {
            thought.telling(j, k);
        }
        return thought.worth(j, h);
    }

    // ---- catching

    public int caught(int first, int minutes) {
        if (!now.areHearers(first) || !within(minutes, 0, 9)) {
            return BAD;
        }
        int laughing = first;
        for (int k = 0; k < minutes; k++) {
            laughing = now.minute(laughing, now.allHearers());
        }
        return laughing;
    }

    public int panic(int first, int what) {
        if (!now.areHearers(first) || !within(what, 0, 1)) {
            return BAD;
        }
        return what == 0 ? now.atLast(first, now.allHearers()) : now.minutesTillLast(first, now.allHearers());
    }

    public int seeds(int what) {
        if (!within(what, 0, 1)) {
            return BAD;
        }
        int all = now.allHearers();
        int best = all;
        for (int first = 0; first < all; first++) {
            if (Integer.bitCount(first) < Integer.bitCount(best) && now.atLast(first, all) == all) {
                best = first;
            }
        }
        return what == 0 ? best : Integer.bitCount(best);
    }

    public int stop(int first, int many) {
        if (!now.areHearers(first) || !within(many, 0, HEARERS_MOST)) {
            return BAD;
        }
        int all = now.allHearers();
        int best = NONE;
        for (int away = 0; away <= all; away++) {
            boolean fewer = best == NONE || Integer.bitCount(away) < Integer.bitCount(best);
            if (fewer && (away & first) == 0 && Integer.bitCount(now.atLast(first, all & ~away)) <= many) {
                best = away;
            }
        }
        return best;
    }

    // ---- going on

    public int spread(int j, int first, int days) {
        if (!now.hasJoke(j)) {
            return NO_FIRST;
        }
        if (!now.areHearers(first) || !within(days, 0, 20)) {
            return NOT_AS_TOLD;
        }
        return now.haveBehind(j, first, days);
    }

    public int through(int j, int h) {
        int refused = refusedTelling(j, h);
        if (refused != 0) {
            return refused;
        }
        for (int days = 0; days <= 6; days++) {
            if (now.haveBehind(j, 1 << h, days) == now.allHearers()) {
                return days;
            }
        }
        return NONE;
    }

    public int origin(int j, int have, int days) {
        if (!now.hasJoke(j)) {
            return NO_FIRST;
        }
        if (!now.areHearers(have) || !within(days, 0, 20)) {
            return NOT_AS_TOLD;
        }
        int bits = 0;
        for (int h = 0; h < now.hearerCount; h++) {
            if (now.haveBehind(j, 1 << h, days) == have) {
                bits |= 1 << h;
            }
        }
        return bits;
    }

    public int furthest(int j, int days, int what) {
        if (!now.hasJoke(j)) {
            return NO_FIRST;
        }
        if (!within(days, 0, 20) || !within(what, 0, 1)) {
            return NOT_AS_TOLD;
        }
        int best = NONE;
        int most = NONE;
        for (int h = 0; h < now.hearerCount; h++) {
            int many = Integer.bitCount(now.haveBehind(j, 1 << h, days));
            if (many > most) {
                most = many;
                best = h;
            }
        }
        return what == 0 ? best : most;
    }

    // ---- towns

    public int rate(int a, int b, int v) {
        if (!isTown(a) || !isTown(b) || a == b) {
            return NO_FIRST;
        }
        if (!within(v, 1, 999)) {
            return NOT_AS_TOLD;
        }
        int place = a * TOWNS + b;
        int was = now.rates[place];
        now.rates[place] = v;
        return was;
    }

    public long change(int a, int b, int much) {
        if (!isTown(a) || !isTown(b) || !within(much, 0, PURSE_MOST)) {
            return NO;
        }
        return now.changed(a, b, much);
    }

    public long gain(int a, int much, int what) {
        if (!isTown(a) || !within(much, 0, PURSE_MOST) || !within(what, 0, 1)) {
            return NO;
        }
        rounds.start(a, much);
        return what == 0 ? rounds.bestDigits : rounds.best;
    }

    private static boolean isTown(int a) {
        return within(a, 0, TOWNS - 1);
    }

    // ---- told laughs

    public int judge(int s, int h) {
        int refused = refusedJudging(s, h);
        return refused != 0 ? refused : otherwise(now, s, h);
    }

    public int humours(int s, int h) {
        int refused = refusedJudging(s, h);
        if (refused != 0) {
            return refused;
        }
        thought.copyFrom(now);
        int bits = 0;
        for (int fun = 0; fun <= 9; fun++) {
            thought.humour[h] = fun;
            bits |= thoughtFits(s, h) << fun;
        }
        return bits;
    }

    public int heards(int s, int h, int what) {
        int refused = refusedJudging(s, h);
        if (refused != 0) {
            return refused;
        }
        if (!within(what, 0, 2)) {
            return NOT_AS_TOLD;
        }
        thought.copyFrom(now);
        int many = 0;
        int inAll = now.allJokes();
        int inNone = now.allJokes();
        for (int heard = 0; heard <= now.allJokes(); heard++) {
            thought.heard[h] = heard;
            if (thoughtFits(s, h) == 1) {
                many++;
                inAll &= heard;
                inNone &= ~heard;
            }
        }
        if (what == 0) {
            return many;
        }
        if (many == 0) {
            return NONE;
        }
        return what == 1 ? inAll : inNone;
    }

    public int kinds(int s, int h, int jokeSort) {
        int refused = refusedJudgingJoke(s, h, jokeSort);
        if (refused != 0) {
            return refused;
        }
        int j = jokeSort / 10;
        thought.copyFrom(now);
        int bits = 0;
        if (jokeSort % 10 == 0) {
            for (int kind = 0; kind < KINDS; kind++) {
                thought.kind[j] = kind;
                bits |= thoughtFits(s, h) << kind;
            }
        } else {
            for (int more = 0; more <= 9; more++) {
                thought.more[j] = more;
                bits |= thoughtFits(s, h) << more;
            }
        }
        return bits;
    }

    public int wear(int s, int h, int jokeWhat) {
        int refused = refusedJudgingJoke(s, h, jokeWhat);
        if (refused != 0) {
            return refused;
        }
        int j = jokeWhat / 10;
        thought.copyFrom(now);
        int many = 0;
        int least = NONE;
        for (int worn = 0; worn <= WORN_MOST; worn++) {
            thought.worn[j] = worn;
            if (thoughtFits(s, h) == 1) {
                many++;
                least = least == NONE ? worn : least;
            }
        }
        return jokeWhat % 10 == 0 ? many : least;
    }

    public int whose(int s) {
        int refused = refusedSheet(s);
        if (refused != 0) {
            return refused;
        }
        int bits = 0;
        for (int h = 0; h < now.hearerCount; h++) {
            if (otherwise(now, s, h) == NONE) {
                bits |= 1 << h;
            }
        }
        return bits;
    }

    public int laws(int s, int h) {
        int refused = refusedJudging(s, h);
        if (refused != 0) {
            return refused;
        }
        thought.copyFrom(now);
        int bits = 0;
        for (int t = 0; t < book.size; t++) {
            thought.law = t;
            bits |= thoughtFits(s, h) << t;
        }
        return bits;
    }

    public long amiss(int s, int h) {
        if (refusedJudging(s, h) != 0) {
            return NO;
        }
        long sum = 0;
        for (int j = 0; j < now.jokeCount; j++) {
            long apart = (long) pages.number(s, j) - now.worth(j, h);
            sum += Math.abs(apart) * now.says(MINDS_PART, now.worn[j], h, now.more[j]);
        }
        return sum;
    }

    public int film(int s, int h) {
        if (!isSheet(s)) {
            return BAD;
        }
        if (!now.hasHearer(h)) {
            return NO_SECOND;
        }
        pages.renew(s, Sheets.BYTES, now.jokeCount);
        for (int j = 0; j < now.jokeCount; j++) {
            pages.write(s, j, now.worth(j, h));
        }
        return now.jokeCount;
    }

    private int refusedSheet(int s) {
        if (!isSheet(s)) {
            return BAD;
        }
        if (pages.isMissing(s)) {
            return MISSING;
        }
        return pages.sizes[s] == now.jokeCount ? 0 : BAD;
    }

    private int refusedJudging(int s, int h) {
        int refused = refusedSheet(s);
        if (refused != 0) {
            return refused;
        }
        return now.hasHearer(h) ? 0 : NO_SECOND;
    }

    private int refusedJudgingJoke(int s, int h, int jokeAnd) {
        int refused = refusedJudging(s, h);
        if (refused != 0) {
            return refused;
        }
        // a number below 0 names no JOKE, whatever its last digit is
        if (jokeAnd < 0 || !now.hasJoke(jokeAnd / 10)) {
            return NO_FIRST;
        }
        return jokeAnd % 10 <= 1 ? 0 : NOT_AS_TOLD;
    }

    private int otherwise(World world, int s, int h) {
        for (int j = 0; j < world.jokeCount; j++) {
            if (pages.number(s, j) != world.worth(j, h)) {
                return j;
            }
        }
        return NONE;
    }

    private int thoughtFits(int s, int h) {
        return otherwise(thought, s, h) == NONE ? 1 : 0;
    }

    // ---- tellings by lot

    public int drawn(int seed, int n) {
        if (!within(seed, 0, 99999) || !within(n, 0, 50)) {
            return BAD;
        }
        return now.canTell() ? drawnSum(seed, n) : NONE;
    }

    public long odds(int seed, int manySeeds, int much, int part) {
        boolean asTold = within(seed, 0, 99999) && within(much, 0, 9999) && within(part, 0, 1);
        if (!asTold || manySeeds < 0 || !now.canTell()) {
            return NO;
        }
        int many = manySeeds / 100;
        int seedCount = manySeeds % 100;
        if (many > 50 || !within(seedCount, 1, 50)) {
            return NO;
        }
        int above = 0;
        for (int k = 0; k < seedCount; k++) {
            if (drawnSum(seed + k, many) >= much) {
                above++;
            }
        }
        int divisor = commonDivisor(above, seedCount);
        return (part == 0 ? above : seedCount) / divisor;
    }

    private int drawnSum(int seed, int n) {
        thought.copyFrom(now);
        int jokeCount = Math.max(1, thought.jokeCount);
        int hearerCount = Math.max(1, thought.hearerCount);
        long lot = seed + 1;
        int sum = 0;
        for (int k = 0; k < n; k++) {
            lot = lot * 48271 % 2147483647;
            sum += thought.telling((int) (lot % jokeCount), (int) (lot / jokeCount % hearerCount));
        }
        return sum;
    }

    private static int commonDivisor(int a, int b) {
        for (int d = Math.max(1, b); d > 1; d--) {
            if (a % d == 0 && b % d == 0) {
                return d;
            }
        }
        return 1;
    }

    public int image() {
        kept.copyFrom(now);
        hasKept = true;
        return kept.jokeCount;
    }

    public int back() {
        if (!hasKept) {
            return STATE;
        }
        now.copyFrom(kept);
        return now.jokeCount;
    }

    // ---- the host

    public int sheet(int s, int sort, int n) {
        if (!isSheet(s) || !within(sort, Sheets.NO_ROW, Sheets.INTS)) {
            return BAD;
        }
        if (sort == Sheets.NO_ROW) {
            pages.renew(s, sort, 0);
            return 1;
        }
        if (n > CELLS_MOST) {
            return BAD;
        }
        if (n < 0) {
            return SIZE_BELOW;
        }
        pages.renew(s, sort, n);
        return 1;
    }

    public int cell(int s, int i, int v) {
        if (!isSheet(s)) {
            return BAD;
        }
        if (pages.isMissing(s)) {
            return MISSING;
        }
        if (!pages.hasPlace(s, i)) {
            return OUTSIDE;
        }
        pages.write(s, i, v);
        return 1;
    }

    public int copy(int s, int i, int other, int j, int n) {
        if (!isSheet(s) || !isSheet(other)) {
            return BAD;
        }
        if (pages.isMissing(s) || pages.isMissing(other)) {
            return MISSING;
        }
        if (pages.sorts[s] != pages.sorts[other]) {
            return OTHER_SORT;
        }
        if (!pages.hasRun(s, i, n) || !pages.hasRun(other, j, n)) {
            return OUTSIDE;
        }
        pages.move(s, i, other, j, n);
        return n;
    }

    public int jokesBy(int s, int sort, int at, int n) {
        if (!isSheet(s) || !within(sort, Sheets.BYTES, Sheets.INTS) || !within(n, 0, JOKES_MOST)) {
            return BAD;
        }
        if (pages.isMissing(s)) {
            return MISSING;
        }
        if (pages.sorts[s] != sort) {
            return OTHER_SORT;
        }
        int came = 0;
        int place = at;
        for (int k = 0; k < n; k++) {
            if (!pages.hasRun(s, place, 2)) {
                return OUTSIDE;
            }
            if (now.addJoke(pages.number(s, place), pages.number(s, place + 1)) >= 0) {
                came++;
            }
            place += 2;
        }
        return came;
    }

    public int taken(int i, int kind) {
        if (!within(kind, 0, KINDS)) {
            return BAD;
        }
        if (!within(i, 0, JOKES_MOST + HEARERS_MOST - 1)) {
            return OUTSIDE;
        }
        return i < JOKES_MOST ? takenJoke(i, kind) : takenHearer(i - JOKES_MOST, kind);
    }

    private int takenJoke(int j, int kind) {
        if (!now.hasJoke(j)) {
            return MISSING;
        }
        return Kinds.isOne(now.kind[j], kind) ? j : OTHER_SORT;
    }

    private int takenHearer(int h, int kind) {
        if (!now.hasHearer(h)) {
            return MISSING;
        }
        return kind == KINDS ? now.purse[h] : OTHER_SORT;
    }

    private static boolean isSheet(int s) {
        return within(s, 0, SHEETS - 1);
    }

    private static boolean within(int v, int least, int most) {
        return least <= v && v <= most;
    }

    private static boolean isByte(int v) {
        return within(v, 0, 255);
    }

    private static boolean hasBit(int bits, int place) {
        return (bits >> place & 1) == 1;
    }

    private static int bounded(int v, int most) {
        return Math.max(0, Math.min(v, most));
    }

    /** What is told of the KINDS, each as of the one above where nothing else is told. */
    private static final class Kinds {
        private static final int JOKE = 0, PUN = 1, YARN = 2, GROANER = 3, CHESTNUT = 4, BORROWED = 5;

        static int worth(int kind, int said, int worn, boolean heard, int more) {
            switch (kind) {
                case PUN: return pun(said, worn, heard, more);
                case YARN: return yarn(said, worn, heard, more);
                case GROANER: return pun(said, worn, false, more) - (heard ? 0 : 3);
                case CHESTNUT: return worn > 9 ? yarn(said, worn - 9, heard, more) + 10 : yarn(said, worn, heard, more);
                case BORROWED: return plain(said, worn, heard) * 9 / 10;
                default: return plain(said, worn, heard);
            }
        }

        private static int plain(int said, int worn, boolean heard) {
            int left = said - 2 * worn;
            return heard ? left / 2 : left;
        }

        private static int pun(int said, int worn, boolean heard, int more) {
            return plain(said, worn, heard) / 2 + more;
        }

        private static int yarn(int said, int worn, boolean heard, int more) {
            return plain(said, worn, heard) + 2 * more;
        }

        static int wornMore(int kind) {
            switch (kind) {
                case YARN: return 2;
                case CHESTNUT: return 2;
                case GROANER: return 0;
                default: return 1;
            }
        }

        static int tellsOn(int kind, int more) {
            switch (kind) {
                case PUN: return 2;
                case GROANER: return 2;
                case CHESTNUT: return 0;
                case BORROWED: return 1 + more / 3;
                default: return 1;
            }
        }

        static boolean isOne(int kind, int above) {
            if (kind == above || above == JOKE) {
                return true;
            }
            return kind == GROANER && above == PUN || kind == CHESTNUT && above == YARN;
        }
    }

    /** All that an IMAGE keeps: the true one, the one in thought, the kept one. */
    private static final class World {
        private final LawBook book;
        private int jokeCount = 0;
        private final int[] kind = new int[JOKES_MOST];
        private final int[] more = new int[JOKES_MOST];
        private final int[] worn = new int[JOKES_MOST];
        private int hearerCount = 0;
        private final int[] humour = new int[HEARERS_MOST];
        private final int[] purse = new int[HEARERS_MOST];
        private final int[] friends = new int[HEARERS_MOST];
        private final int[] heard = new int[HEARERS_MOST];
        private final int[] catches = new int[HEARERS_MOST];
        private final int[] rates = new int[TOWNS * TOWNS];
        private int day = 0;
        private int law = 0;

        World(LawBook book) {
            this.book = book;
            for (int i = 0; i < TOWNS * TOWNS; i++) {
                rates[i] = 100;
            }
        }

        void copyFrom(World other) {
            jokeCount = other.jokeCount;
            hearerCount = other.hearerCount;
            day = other.day;
            law = other.law;
            for (int j = 0; j < JOKES_MOST; j++) {
                kind[j] = other.kind[j];
                more[j] = other.more[j];
                worn[j] = other.worn[j];
            }
            for (int h = 0; h < HEARERS_MOST; h++) {
                humour[h] = other.humour[h];
                purse[h] = other.purse[h];
                friends[h] = other.friends[h];
                heard[h] = other.heard[h];
                catches[h] = other.catches[h];
            }
            for (int i = 0; i < TOWNS * TOWNS; i++) {
                rates[i] = other.rates[i];
            }
        }

        boolean hasJoke(int j) {
            return within(j, 0, jokeCount - 1);
        }

        boolean hasHearer(int h) {
            return within(h, 0, hearerCount - 1);
        }

        boolean canTell() {
            return jokeCount > 0 && hearerCount > 0;
        }

        int allJokes() {
            return (1 << jokeCount) - 1;
        }

        int allHearers() {
            return (1 << hearerCount) - 1;
        }

        boolean areHearers(int bits) {
            return within(bits, 0, allHearers());
        }

        int addJoke(int itsKind, int itsMore) {
            if (!within(itsKind, 0, KINDS - 1) || !within(itsMore, 0, 9)) {
                return BAD;
            }
            if (jokeCount >= JOKES_MOST) {
                return FULL;
            }
            int j = jokeCount;
            kind[j] = itsKind;
            more[j] = itsMore;
            worn[j] = 0;
            jokeCount++;
            return j;
        }

        int addHearer(int fun, int from) {
            int h = hearerCount;
            humour[h] = fun;
            purse[h] = 0;
            friends[h] = 0;
            heard[h] = 0;
            catches[h] = from;
            hearerCount++;
            return h;
        }

        int trait(int h, int what) {
            switch (what) {
                case 0: return humour[h];
                case 1: return purse[h];
                case 2: return friends[h];
                case 3: return heard[h];
                default: return catches[h];
            }
        }

        void become(int h, int what, int v) {
            switch (what) {
                case 0: humour[h] = v; break;
                case 1: purse[h] = v; break;
                case 2: friends[h] = v; break;
                case 3: heard[h] = v; break;
                default: catches[h] = v; break;
            }
        }

        int says(int part, int toldTimes, int h, int itsMore) {
            int[] names = book.names;
            names[0] = toldTimes;
            names[1] = humour[h];
            names[2] = itsMore;
            names[3] = day;
            names[4] = purse[h];
            names[5] = h;
            return bounded(book.answer(law, part), part == FADES_PART ? 100 : 99);
        }

        int worth(int j, int h) {
            int said = says(YIELDS_PART, worn[j], h, more[j]);
            return bounded(Kinds.worth(kind[j], said, worn[j], hasBit(heard[h], j), more[j]), 99);
        }

        int telling(int j, int h) {
            int much = worth(j, h);
            laugh(j, h, much);
            return much;
        }

        void laugh(int j, int h, int much) {
            purse[h] = Math.min(PURSE_MOST, purse[h] + much);
            worn[j] = Math.min(WORN_MOST, worn[j] + Kinds.wornMore(kind[j]));
            heard[h] |= 1 << j;
        }

        int fading(int h) {
            return purse[h] * says(FADES_PART, 0, h, 0) / 100;
        }

        /** 10 times the JOKE, and the HEARER, of the TELLING that yields most. */
        int dearest() {
            int best = 0;
            int most = NONE;
            for (int j = 0; j < jokeCount; j++) {
                for (int h = 0; h < hearerCount; h++) {
                    int much = worth(j, h);
                    if (much > most) {
                        most = much;
                        best = 10 * j + h;
                    }
                }
            }
            return best;
        }

        int minute(int laughing, int there) {
            int then = laughing;
            for (int h = 0; h < hearerCount; h++) {
                int heardFrom = Integer.bitCount(friends[h] & there & laughing);
                if (hasBit(there, h) && heardFrom >= catches[h]) {
                    then |= 1 << h;
                }
            }
            return then;
        }

        int minutesTillLast(int first, int there) {
            int laughing = first;
            for (int k = 0; k < HEARERS_MOST; k++) {
                int then = minute(laughing, there);
                if (then == laughing) {
                    return k;
                }
                laughing = then;
            }
            return HEARERS_MOST;
        }

        int atLast(int first, int there) {
            int laughing = first;
            for (int k = 0; k < HEARERS_MOST; k++) {
                laughing = minute(laughing, there);
            }
            return laughing;
        }

        int haveBehind(int j, int first, int days) {
            int on = Kinds.tellsOn(kind[j], more[j]);
            int have = first;
            for (int k = 0; k < days; k++) {
                int had = have;
                for (int h = 0; h < hearerCount; h++) {
                    if (hasBit(had, h)) {
                        have = toldOn(h, have, on);
                    }
                }
            }
            return have;
        }

        private int toldOn(int h, int have, int on) {
            int then = have;
            int left = on;
            for (int other = 0; other < hearerCount && left > 0; other++) {
                if (hasBit(friends[h] & ~then, other)) {
                    then |= 1 << other;
                    left--;
                }
            }
            return then;
        }

        long changed(int a, int b, long much) {
            return a == b ? much : much * rates[a * TOWNS + b] / 100;
        }
    }

    /** The rows of TELLINGS of friday(), tried on a World in thought. */
    private static final class Search {
        private static final int LEVELS = 3, PLACES = JOKES_MOST * HEARERS_MOST;

        private final World world;
        private int levels = 0;
        private int best = NONE;
        private final int[] row = new int[LEVELS];
        private final int[] bestRow = new int[LEVELS];
        // what each TELLING yields behind the ones ahead of it, a table for each level
        private final int[] worths = new int[LEVELS * PLACES];

        Search(World world) {
            this.world = world;
        }

        void start(int n) {
            levels = Math.min(n, LEVELS);
            best = NONE;
            for (int j = 0; j < world.jokeCount; j++) {
                for (int h = 0; h < world.hearerCount; h++) {
                    worths[place(0, j, h)] = world.worth(j, h);
                }
            }
            descend(this, 0, 0);
        }

        int bestAt(int level) {
            return within(level, 0, LEVELS - 1) ? bestRow[level] : NONE;
        }

        private static int place(int level, int j, int h) {
            return level * PLACES + j * HEARERS_MOST + h;
        }

        private static void descend(Search s, int level, int sum) {
            if (level >= s.levels) {
                return;
            }
            World world = s.world;
            for (int j = 0; j < world.jokeCount; j++) {
                for (int h = 0; h < world.hearerCount; h++) {
                    s.row[level] = 10 * j + h;
                    int much = s.worths[place(level, j, h)];
                    if (level == s.levels - 1) {
                        s.compare(sum + much);
                    } else {
                        int worn = world.worn[j];
                        int purse = world.purse[h];
                        int heard = world.heard[h];
                        world.laugh(j, h, much);
                        s.refresh(level + 1, j, h);
                        descend(s, level + 1, sum + much);
                        world.worn[j] = worn;
                        world.purse[h] = purse;
                        world.heard[h] = heard;
                    }
                }
            }
        }

        /** A TELLING changes nothing but what its JOKE, and what its HEARER, yields. */
        private void refresh(int level, int j, int h) {
            System.arraycopy(worths, place(level - 1, 0, 0), worths, place(level, 0, 0), PLACES);
            for (int other = 0; other < world.hearerCount; other++) {
                worths[place(level, j, other)] = world.worth(j, other);
            }
            for (int other = 0; other < world.jokeCount; other++) {
                worths[place(level, other, h)] = world.worth(other, h);
            }
        }

        private void compare(int sum) {
            if (sum > best) {
                best = sum;
                for (int k = 0; k < LEVELS; k++) {
                    bestRow[k] = row[k];
                }
            }
        }
    }

    /** The rounds of exchanges of gain(). */
    private static final class Rounds {
        private final World world;
        private int first = 0;
        private long best = 0;
        private int bestDigits = 0;

        Rounds(World world) {
            this.world = world;
        }

        void start(int a, long much) {
            first = a;
            best = much;
            bestDigits = 0;
            goOn(this, a, much, 0, 1 << a);
        }

        private static void goOn(Rounds r, int at, long much, int digits, int been) {
            // three others have three digits: no round is longer
            if (digits > 999) {
                return;
            }
            for (int to = 0; to < TOWNS; to++) {
                if (to == r.first) {
                    r.compare(r.world.changed(at, to, much), digits);
                } else if (!hasBit(been, to)) {
                    goOn(r, to, r.world.changed(at, to, much), digits * 10 + to + 1, been | 1 << to);
                }
            }
        }

        private void compare(long much, int digits) {
            if (digits > 0 && much > best) {
                best = much;
                bestDigits = digits;
            }
        }
    }

    /** The TEXTS, as rows of steps for a stack. */
    private static final class LawBook {
        // a step from 0 on is a NUMBER; NAMES are FIRST_NAME and below, by their order
        private static final int FIRST_NAME = -1, NAMES = 6, LAST_NAME = FIRST_NAME - NAMES + 1;
        // the steps for one value, above those for two
        private static final int NOT = -10, NEGATE = -11;
        private static final int OR = -12, AND = -13, LESS = -14, LIKE = -15, PLUS = -16, MINUS = -17, TIMES = -18;
        // five ( open, and in each of these six E at most five values that wait: 31 are enough
        private static final int STACK = 64;

        private int size = 0;
        private final int[] steps = new int[TEXTS_MOST * TAPE_MOST];
        private final int[] ends = new int[TEXTS_MOST * PARTS];
        private final int[] names = new int[NAMES];
        private final int[] stack = new int[STACK];

        int keep(int[] code, int[] codeEnds) {
            if (size >= TEXTS_MOST || code.length < TAPE_MOST || codeEnds.length < PARTS) {
                return FULL;
            }
            System.arraycopy(code, 0, steps, size * TAPE_MOST, TAPE_MOST);
            System.arraycopy(codeEnds, 0, ends, size * PARTS, PARTS);
            size++;
            return size - 1;
        }

        int answer(int t, int part) {
            if (!within(t, 0, size - 1) || !within(part, 0, PARTS - 1)) {
                return 0;
            }
            int base = t * TAPE_MOST;
            int from = part == 0 ? 0 : ends[t * PARTS + part - 1];
            int to = ends[t * PARTS + part];
            int top = 0;
            for (int i = base + from; i < base + to; i++) {
                int step = steps[i];
                if (step >= LAST_NAME) {
                    if (top < STACK) {
                        stack[top] = step >= 0 ? step : names[FIRST_NAME - step];
                        top++;
                    }
                } else if (step >= NEGATE) {
                    if (top > 0) {
                        int a = stack[top - 1];
                        stack[top - 1] = step == NEGATE ? -a : a == 0 ? 1 : 0;
                    }
                } else if (top > 1) {
                    top--;
                    stack[top - 1] = joined(step, stack[top - 1], stack[top]);
                }
            }
            return top > 0 ? stack[top - 1] : 0;
        }

        private static int joined(int step, int a, int b) {
            switch (step) {
                case OR: return a != 0 || b != 0 ? 1 : 0;
                case AND: return a != 0 && b != 0 ? 1 : 0;
                case LESS: return a < b ? 1 : 0;
                case LIKE: return a == b ? 1 : 0;
                case PLUS: return a + b;
                case MINUS: return a - b;
                default: return a * b;
            }
        }
    }

    /** THE TAPE, cut to TOKENS and read to the steps of a TEXT. */
    private static final class Reader {
        // a WORD's TOKEN is its place in WORDS, from 1 on; a SIGN's is its byte
        private static final String WORDS = "yields fades minds or and not told humour more day purse hearer ";
        private static final String SIGNS = "();+-*<=";
        private static final int WRONG = 0, FIRST_KEY = 1, OR = 4, AND = 5, NOT = 6, FIRST_NAME = 7, LAST_NAME = 12;
        private static final int NUMBER = 13, END = 14, OPEN_MOST = 5;

        private int size = 0;
        private final int[] tape = new int[TAPE_MOST];
        private int tokens = 0;
        private final int[] kinds = new int[TAPE_MOST + 1];
        private final int[] places = new int[TAPE_MOST + 1];
        private final int[] numbers = new int[TAPE_MOST + 1];
        private int at = 0;
        private int codeSize = 0;
        private final int[] code = new int[TAPE_MOST];
        private final int[] ends = new int[PARTS];

        void put(int b) {
            if (size < TAPE_MOST) {
                tape[size] = b;
                size++;
            }
        }

        void empty() {
            size = 0;
        }

        /** Where the TOKEN begins at which the reading stands: behind a FAULT, its place. */
        int place() {
            return within(at, 0, TAPE_MOST) ? places[at] : size;
        }

        boolean read() {
            cut();
            at = 0;
            codeSize = 0;
            for (int part = 0; part < PARTS; part++) {
                if (!take(FIRST_KEY + part) || !either(0) || !take(';')) {
                    return false;
                }
                ends[part] = codeSize;
            }
            return isNext(END);
        }

        private void cut() {
            tokens = 0;
            int from = 0;
            for (int k = 0; k < TAPE_MOST && from < size; k++) {
                int to = endOf(from);
                if (tape[from] != 32 && tape[from] != 10) {
                    addToken(kindOf(from, to), from, to);
                }
                from = to;
            }
            addToken(END, size, size);
        }

        private void addToken(int kind, int from, int to) {
            if (tokens > TAPE_MOST) {
                return;
            }
            kinds[tokens] = kind;
            places[tokens] = from;
            numbers[tokens] = 0;
            if (kind == NUMBER) {
                for (int i = from; i < to; i++) {
                    numbers[tokens] = numbers[tokens] * 10 + tape[i] - '0';
                }
            }
            tokens++;
        }

        private int endOf(int from) {
            int to = from + 1;
            if (isLetter(tape[from])) {
                while (to < size && isLetter(tape[to])) {
                    to++;
                }
            } else if (isDigit(tape[from])) {
                while (to < size && isDigit(tape[to])) {
                    to++;
                }
            }
            return to;
        }

        private int kindOf(int from, int to) {
            if (isLetter(tape[from])) {
                return wordOf(from, to);
            }
            if (isDigit(tape[from])) {
                return to - from > 4 ? WRONG : NUMBER;
            }
            return SIGNS.indexOf((char) tape[from]) >= 0 ? tape[from] : WRONG;
        }

        private int wordOf(int from, int to) {
            int word = FIRST_KEY;
            int start = 0;
            for (int i = 0; i < WORDS.length(); i++) {
                if (WORDS.charAt(i) == ' ') {
                    if (i - start == to - from && isSame(start, i, from)) {
                        return word;
                    }
                    word++;
                    start = i + 1;
                }
            }
            return WRONG;
        }

        private boolean isSame(int start, int end, int from) {
            for (int i = start; i < end; i++) {
                if (WORDS.charAt(i) != tape[from + i - start]) {
                    return false;
                }
            }
            return true;
        }

        private static boolean isLetter(int b) {
            return within(b, 'a', 'z');
        }

        private static boolean isDigit(int b) {
            return within(b, '0', '9');
        }

        private boolean isNext(int kind) {
            return at < tokens && kinds[at] == kind;
        }

        private boolean take(int kind) {
            boolean stands = isNext(kind);
            if (stands) {
                at++;
            }
            return stands;
        }

        /** As many of these as stand there, but no more than may: one more then is where it can't stand. */
        private int takeSome(int kind, int most) {
            int many = 0;
            while (many < most && isNext(kind)) {
                at++;
                many++;
            }
            return many;
        }

        /** A step is written; so that it may end a reading, it always is true. */
        private boolean write(int step) {
            if (codeSize < TAPE_MOST) {
                code[codeSize] = step;
                codeSize++;
            }
            return true;
        }

        private boolean writeSome(int step, int times) {
            for (int k = 0; k < times; k++) {
                write(step);
            }
            return true;
        }

        private boolean either(int open) {
            if (!both(open)) {
                return false;
            }
            for (int k = 0; k < TAPE_MOST && take(OR); k++) {
                if (!both(open)) {
                    return false;
                }
                write(LawBook.OR);
            }
            return true;
        }

        private boolean both(int open) {
            if (!denied(open)) {
                return false;
            }
            for (int k = 0; k < TAPE_MOST && take(AND); k++) {
                if (!denied(open)) {
                    return false;
                }
                write(LawBook.AND);
            }
            return true;
        }

        private boolean denied(int open) {
            int nots = takeSome(NOT, OPEN_MOST - open);
            return compared(open + nots) && writeSome(LawBook.NOT, nots);
        }

        private boolean compared(int open) {
            if (!sum(open)) {
                return false;
            }
            if (take('<')) {
                return sum(open) && write(LawBook.LESS);
            }
            return !take('=') || sum(open) && write(LawBook.LIKE);
        }

        private boolean sum(int open) {
            if (!term(open)) {
                return false;
            }
            for (int k = 0; k < TAPE_MOST && (isNext('+') || isNext('-')); k++) {
                int step = isNext('+') ? LawBook.PLUS : LawBook.MINUS;
                at++;
                if (!term(open)) {
                    return false;
                }
                write(step);
            }
            return true;
        }

        private boolean term(int open) {
            if (!one(open)) {
                return false;
            }
            for (int k = 0; k < TAPE_MOST && take('*'); k++) {
                if (!one(open)) {
                    return false;
                }
                write(LawBook.TIMES);
            }
            return true;
        }

        private boolean one(int open) {
            int minuses = takeSome('-', OPEN_MOST - open);
            return single(open + minuses) && writeSome(LawBook.NEGATE, minuses);
        }

        private boolean single(int open) {
            if (at >= tokens) {
                return false;
            }
            int kind = kinds[at];
            if (kind == '(') {
                return open < OPEN_MOST && take('(') && either(open + 1) && take(')');
            }
            if (kind == NUMBER) {
                write(numbers[at]);
            } else if (within(kind, FIRST_NAME, LAST_NAME)) {
                write(LawBook.FIRST_NAME - (kind - FIRST_NAME));
            } else {
                return false;
            }
            at++;
            return true;
        }
    }

    /** Rows of numbers, each as large as it can be, with a sort and a size. */
    private static final class Sheets {
        private static final int NO_ROW = -1, BYTES = 0, SHORTS = 1, INTS = 2;

        private final int[] sorts = {NO_ROW, NO_ROW, NO_ROW, NO_ROW};
        private final int[] sizes = new int[SHEETS];
        private final int[] cells = new int[SHEETS * CELLS_MOST];

        boolean isMissing(int s) {
            return sorts[s] == NO_ROW;
        }

        void renew(int s, int sort, int n) {
            sorts[s] = sort;
            sizes[s] = n;
            for (int i = 0; i < CELLS_MOST; i++) {
                cells[s * CELLS_MOST + i] = 0;
            }
        }

        boolean hasPlace(int s, int i) {
            return within(i, 0, sizes[s] - 1);
        }

        boolean hasRun(int s, int i, int n) {
            return n >= 0 && i >= 0 && i <= sizes[s] && n <= sizes[s] - i;
        }

        int number(int s, int i) {
            return hasPlace(s, i) ? cells[s * CELLS_MOST + i] : 0;
        }

        void write(int s, int i, int v) {
            if (hasPlace(s, i)) {
                cells[s * CELLS_MOST + i] = sorts[s] == BYTES ? (byte) v : sorts[s] == SHORTS ? (short) v : v;
            }
        }

        void move(int s, int i, int other, int j, int n) {
            System.arraycopy(cells, s * CELLS_MOST + i, cells, other * CELLS_MOST + j, n);
        }
    }
}
