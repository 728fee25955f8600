import java.util.ArrayList;
import java.util.HashMap;
import java.util.List;
import java.util.Map;
import java.util.function.ToIntFunction;

/** The document once more, in another form and as plainly as can be: lists that are copied, texts as trees. */
final class Model {
    static final long NO = -4611686018427387904L;

    /** A JOKE of KIND 0; the others are of classes below it, as the document tells them. */
    static class Joke {
        final int kind;
        final int more;
        int worn = 0;

        Joke(int kind, int more) {
            this.kind = kind;
            this.more = more;
        }

        int worth(int said, int worn, boolean heard) {
            int left = said - 2 * worn;
            return heard ? left / 2 : left;
        }

        int wears() {
            return 1;
        }

        int on() {
            return 1;
        }
    }

    static class Pun extends Joke {
        Pun(int kind, int more) {
            super(kind, more);
        }

        @Override int worth(int said, int worn, boolean heard) {
            return super.worth(said, worn, heard) / 2 + more;
        }

        @Override int on() {
            return super.on() + 1;
        }
    }

    static class Yarn extends Joke {
        Yarn(int kind, int more) {
            super(kind, more);
        }

        @Override int worth(int said, int worn, boolean heard) {
            return super.worth(said, worn, heard) + more + more;
        }

        @Override int wears() {
            return super.wears() + 1;
        }
    }

    static final class Groaner extends Pun {
        Groaner(int kind, int more) {
            super(kind, more);
        }

        @Override int worth(int said, int worn, boolean heard) {
            int fresh = super.worth(said, worn, false);
            return heard ? fresh : fresh - 3;
        }

        @Override int wears() {
            return 0;
        }
    }

    static final class Chestnut extends Yarn {
        Chestnut(int kind, int more) {
            super(kind, more);
        }

        @Override int worth(int said, int worn, boolean heard) {
            return worn <= 9 ? super.worth(said, worn, heard) : 10 + super.worth(said, worn - 9, heard);
        }

        @Override int on() {
            return 0;
        }
    }

    static final class Borrowed extends Joke {
        Borrowed(int kind, int more) {
            super(kind, more);
        }

        @Override int worth(int said, int worn, boolean heard) {
            return super.worth(said, worn, heard) * 9 / 10;
        }

        @Override int on() {
            return super.on() + more / 3;
        }
    }

    static Joke jokeOf(int kind, int more) {
        switch (kind) {
            case 0: return new Joke(kind, more);
            case 1: return new Pun(kind, more);
            case 2: return new Yarn(kind, more);
            case 3: return new Groaner(kind, more);
            case 4: return new Chestnut(kind, more);
            default: return new Borrowed(kind, more);
        }
    }

    static Class<?> classOf(int kind) {
        return jokeOf(kind, 0).getClass();
    }

    static final class Hearer {
        int humour;
        int purse;
        int friends;
        int heard;
        int catches;
    }

    static final class Here {
        final List<Joke> jokes = new ArrayList<>();
        final List<Hearer> hearers = new ArrayList<>();
        final int[][] rates = new int[4][4];
        int day = 0;
        int law = 0;

        Here again() {
            Here other = new Here();
            for (Joke joke : jokes) {
                Joke same = jokeOf(joke.kind, joke.more);
                same.worn = joke.worn;
                other.jokes.add(same);
            }
            for (Hearer hearer : hearers) {
                Hearer same = new Hearer();
                same.humour = hearer.humour;
                same.purse = hearer.purse;
                same.friends = hearer.friends;
                same.heard = hearer.heard;
                same.catches = hearer.catches;
                other.hearers.add(same);
            }
            for (int a = 0; a < 4; a++) {
                other.rates[a] = rates[a].clone();
            }
            other.day = day;
            other.law = law;
            return other;
        }
    }

    /** A TEXT's three parts, each a tree that is asked with the NAMES. */
    static final class Parsed {
        final List<ToIntFunction<Map<String, Integer>>> parts = new ArrayList<>();
    }

    static final class Fault extends RuntimeException {
        private static final long serialVersionUID = 1L;
        final int place;

        Fault(int place) {
            this.place = place;
        }
    }

    /** Reads a text; throws a Fault. */
    static final class Reading {
        final String text;
        final List<String> words = new ArrayList<>();
        final List<Integer> places = new ArrayList<>();
        int at = 0;
        int open = 0;

        Reading(String text) {
            this.text = text;
            java.util.regex.Matcher m = java.util.regex.Pattern.compile("[a-z]+|[0-9]+|[ \n]+|(?s).").matcher(text);
            while (m.find()) {
                if (!m.group().isBlank() || !m.group().matches("[ \n]+")) {
                    words.add(m.group());
                    places.add(m.start());
                }
            }
            words.add("END");
            places.add(text.length());
        }

        boolean is(String word) {
            return words.get(at).equals(word);
        }

        Fault fault() {
            return new Fault(places.get(at));
        }

        void must(String word) {
            if (!is(word)) {
                throw fault();
            }
            at++;
        }

        Parsed all() {
            Parsed p = new Parsed();
            for (String key : new String[] {"yields", "fades", "minds"}) {
                must(key);
                p.parts.add(e());
                must(";");
            }
            must("END");
            return p;
        }

        ToIntFunction<Map<String, Integer>> e() {
            ToIntFunction<Map<String, Integer>> left = and();
            while (is("or")) {
                at++;
                ToIntFunction<Map<String, Integer>> a = left;
                ToIntFunction<Map<String, Integer>> b = and();
                left = n -> (a.applyAsInt(n) != 0) | (b.applyAsInt(n) != 0) ? 1 : 0;
            }
            return left;
        }

        ToIntFunction<Map<String, Integer>> and() {
            ToIntFunction<Map<String, Integer>> left = not();
            while (is("and")) {
                at++;
                ToIntFunction<Map<String, Integer>> a = left;
                ToIntFunction<Map<String, Integer>> b = not();
                left = n -> (a.applyAsInt(n) != 0) & (b.applyAsInt(n) != 0) ? 1 : 0;
            }
            return left;
        }

        void opens() {
            if (open == 5) {
                throw fault();
            }
            open++;
            at++;
        }

        ToIntFunction<Map<String, Integer>> not() {
            if (is("not")) {
                opens();
                ToIntFunction<Map<String, Integer>> a = not();
                open--;
                return n -> a.applyAsInt(n) == 0 ? 1 : 0;
            }
            ToIntFunction<Map<String, Integer>> a = sum();
            if (is("<")) {
                at++;
                ToIntFunction<Map<String, Integer>> b = sum();
                return n -> a.applyAsInt(n) < b.applyAsInt(n) ? 1 : 0;
            }
            if (is("=")) {
                at++;
                ToIntFunction<Map<String, Integer>> b = sum();
                return n -> a.applyAsInt(n) == b.applyAsInt(n) ? 1 : 0;
            }
            return a;
        }

        ToIntFunction<Map<String, Integer>> sum() {
            ToIntFunction<Map<String, Integer>> left = term();
            while (is("+") || is("-")) {
                boolean plus = is("+");
                at++;
                ToIntFunction<Map<String, Integer>> a = left;
                ToIntFunction<Map<String, Integer>> b = term();
                left = n -> plus ? a.applyAsInt(n) + b.applyAsInt(n) : a.applyAsInt(n) - b.applyAsInt(n);
            }
            return left;
        }

        ToIntFunction<Map<String, Integer>> term() {
            ToIntFunction<Map<String, Integer>> left = one();
            while (is("*")) {
                at++;
                ToIntFunction<Map<String, Integer>> a = left;
                ToIntFunction<Map<String, Integer>> b = one();
                left = n -> a.applyAsInt(n) * b.applyAsInt(n);
            }
            return left;
        }

        ToIntFunction<Map<String, Integer>> one() {
            String word = words.get(at);
            if (word.matches("[0-9]{1,4}")) {
                at++;
                int v = Integer.parseInt(word);
                return n -> v;
            }
            if (List.of("told", "humour", "more", "day", "purse", "hearer").contains(word)) {
                at++;
                return n -> n.get(word);
            }
            if (word.equals("-")) {
                opens();
                ToIntFunction<Map<String, Integer>> a = one();
                open--;
                return n -> -a.applyAsInt(n);
            }
            if (word.equals("(")) {
                opens();
                ToIntFunction<Map<String, Integer>> a = e();
                must(")");
                open--;
                return a;
            }
            throw fault();
        }
    }

    private Here now = new Here();
    private Here kept = null;
    private StringBuilder tape = new StringBuilder();
    private final List<Parsed> texts = new ArrayList<>();
    private final Object[] sheets = new Object[4];

    Model() {
        for (int[] row : now.rates) {
            java.util.Arrays.fill(row, 100);
        }
        texts.add(new Reading("yields 20 + humour * 3 ; fades 10 ; minds 5 ;").all());
    }

    private int says(Here w, int part, int told, int h, int more) {
        Hearer one = w.hearers.get(h);
        Map<String, Integer> names = new HashMap<>();
        names.put("told", told);
        names.put("humour", one.humour);
        names.put("more", more);
        names.put("day", w.day);
        names.put("purse", one.purse);
        names.put("hearer", h);
        int v = texts.get(w.law).parts.get(part).applyAsInt(names);
        return v < 0 ? 0 : Math.min(v, part == 1 ? 100 : 99);
    }

    private int worth(Here w, int j, int h) {
        Joke joke = w.jokes.get(j);
        boolean heard = (w.hearers.get(h).heard & 1 << j) != 0;
        int v = joke.worth(says(w, 0, joke.worn, h, joke.more), joke.worn, heard);
        return v < 0 ? 0 : Math.min(v, 99);
    }

    private int tells(Here w, int j, int h) {
        int v = worth(w, j, h);
        Hearer one = w.hearers.get(h);
        one.purse = Math.min(9999, one.purse + v);
        Joke joke = w.jokes.get(j);
        joke.worn = Math.min(99, joke.worn + joke.wears());
        one.heard |= 1 << j;
        return v;
    }

    private boolean j(int j) {
        return j >= 0 && j < now.jokes.size();
    }

    private boolean h(int h) {
        return h >= 0 && h < now.hearers.size();
    }

    private int all() {
        return (1 << now.hearers.size()) - 1;
    }

    private boolean bits(int v) {
        return v >= 0 && v <= all();
    }

    int count(int what) {
        int[] all = {now.jokes.size(), now.hearers.size(), now.day, texts.size(), now.law, tape.length()};
        return what < 0 || what > 5 ? -2 : all[what];
    }

    int feed(int n, int... five) {
        boolean bad = n < 1 || n > 5;
        for (int b : five) {
            bad |= b < 0 || b > 255;
        }
        if (bad) {
            return -2;
        }
        if (tape.length() + n > 160) {
            return -4;
        }
        for (int i = 0; i < n; i++) {
            tape.append((char) five[i]);
        }
        return tape.length();
    }

    int text() {
        if (texts.size() == 6) {
            return -4;
        }
        String text = tape.toString();
        tape = new StringBuilder();
        try {
            texts.add(new Reading(text).all());
            return texts.size() - 1;
        } catch (Fault fault) {
            return -100 - fault.place;
        }
    }

    int force(int t) {
        if (t < 0 || t >= texts.size()) {
            return -2;
        }
        int was = now.law;
        now.law = t;
        return was;
    }

    int asks(int part, int times, int h, int more) {
        if (part < 0 || part > 2 || times < 0 || times > 99 || !h(h) || more < 0 || more > 9) {
            return -2;
        }
        return says(now, part, times, h, more);
    }

    int joke(int kind, int more) {
        if (kind < 0 || kind > 5 || more < 0 || more > 9) {
            return -2;
        }
        if (now.jokes.size() == 5) {
            return -4;
        }
        now.jokes.add(jokeOf(kind, more));
        return now.jokes.size() - 1;
    }

    int told(int j, int what) {
        if (!j(j)) {
            return -5;
        }
        Joke joke = now.jokes.get(j);
        int[] all = {joke.kind, joke.more, joke.worn, joke.on()};
        return what < 0 || what > 3 ? -7 : all[what];
    }

    int hearer(int fun, int from) {
        if (fun < 0 || fun > 9 || from < 1 || from > 9) {
            return -2;
        }
        if (now.hearers.size() == 6) {
            return -4;
        }
        Hearer one = new Hearer();
        one.humour = fun;
        one.catches = from;
        now.hearers.add(one);
        return now.hearers.size() - 1;
    }

    int set(int h, int what, int v) {
        if (!h(h)) {
            return -5;
        }
        if (what < 0 || what > 4) {
            return -7;
        }
        int was = of(h, what);
        int[] least = {0, 0, 0, 0, 1};
        int[] most = {9, 9999, all(), (1 << now.jokes.size()) - 1, 9};
        if (v < least[what] || v > most[what] || what == 2 && (v >> h) % 2 == 1) {
            return -7;
        }
        Hearer one = now.hearers.get(h);
        one.humour = what == 0 ? v : one.humour;
        one.purse = what == 1 ? v : one.purse;
        one.friends = what == 2 ? v : one.friends;
        one.heard = what == 3 ? v : one.heard;
        one.catches = what == 4 ? v : one.catches;
        return was;
    }

    int of(int h, int what) {
        if (!h(h)) {
            return -5;
        }
        Hearer one = now.hearers.get(h);
        int[] all = {one.humour, one.purse, one.friends, one.heard, one.catches};
        return what < 0 || what > 4 ? -7 : all[what];
    }

    int yields(int j, int h) {
        return !j(j) ? -5 : !h(h) ? -6 : worth(now, j, h);
    }

    int tell(int j, int h) {
        return !j(j) ? -5 : !h(h) ? -6 : tells(now, j, h);
    }

    int pay(int h, int other, int much) {
        if (!h(h) || !h(other) || h == other) {
            return -5;
        }
        if (much < 0 || much > 9999) {
            return -7;
        }
        Hearer from = now.hearers.get(h);
        Hearer to = now.hearers.get(other);
        if (from.purse < much) {
            return -3;
        }
        if (to.purse + much > 9999) {
            return -4;
        }
        from.purse -= much;
        to.purse += much;
        return from.purse;
    }

    int fades(int h) {
        return h(h) ? now.hearers.get(h).purse * says(now, 1, 0, h, 0) / 100 : -5;
    }

    int night() {
        if (now.day == 99) {
            return -4;
        }
        int sum = 0;
        for (int h = 0; h < now.hearers.size(); h++) {
            int f = fades(h);
            now.hearers.get(h).purse -= f;
            sum += f;
        }
        now.day++;
        return sum;
    }

    private boolean none() {
        return now.jokes.isEmpty() || now.hearers.isEmpty();
    }

    /** All rows of n, as numbers of so many digits as there are TELLINGS. */
    int friday(int n, int what) {
        if (n < 1 || n > 3 || what < -1 || what >= n) {
            return -2;
        }
        if (none()) {
            return what == -1 ? 0 : -1;
        }
        int pairs = now.jokes.size() * now.hearers.size();
        int rows = n == 1 ? pairs : n == 2 ? pairs * pairs : pairs * pairs * pairs;
        int best = -1;
        int[] bestRow = null;
        for (int row = 0; row < rows; row++) {
            Here w = now.again();
            int sum = 0;
            int[] codes = new int[n];
            int rest = row;
            for (int k = n - 1; k >= 0; k--) {
                codes[k] = rest % pairs / now.hearers.size() * 10 + rest % pairs % now.hearers.size();
                rest /= pairs;
            }
            for (int code : codes) {
                sum += tells(w, code / 10, code % 10);
            }
            if (sum > best) {
                best = sum;
                bestRow = codes;
            }
        }
        return what == -1 ? best : bestRow[what];
    }

    int greedy(int n, int what) {
        if (n < 1 || n > 20 || what < 0 || what > 1) {
            return -2;
        }
        if (none()) {
            return what == 0 ? 0 : -1;
        }
        Here w = now.again();
        int sum = 0;
        int first = -1;
        for (int k = 0; k < n; k++) {
            int bestJ = 0;
            int bestH = 0;
            for (int j = 0; j < w.jokes.size(); j++) {
                for (int h = 0; h < w.hearers.size(); h++) {
                    if (worth(w, j, h) > worth(w, bestJ, bestH)) {
                        bestJ = j;
                        bestH = h;
                    }
                }
            }
            first = k == 0 ? 10 * bestJ + bestH : first;
            sum += tells(w, bestJ, bestH);
        }
        return what == 0 ? sum : first;
    }

    int mine(int j, int h, int much) {
        if (!j(j) || !h(h)) {
            return !j(j) ? -5 : -6;
        }
        if (much < 0 || much > 99) {
            return -7;
        }
        Here w = now.again();
        for (int k = 0; k < 100; k++) {
            if (tells(w, j, h) <= much) {
                return k;
            }
        }
        return -1;
    }

    int round(int what) {
        if (what < 0 || what > 1) {
            return -2;
        }
        int best = -1;
        int most = -1;
        for (int j = 0; j < now.jokes.size(); j++) {
            Here w = now.again();
            int sum = 0;
            for (int h = 0; h < w.hearers.size(); h++) {
                sum += tells(w, j, h);
            }
            if (sum > most) {
                most = sum;
                best = j;
            }
        }
        return what == 0 ? best : most;
    }

    int last(int j) {
        if (!j(j)) {
            return -5;
        }
        int best = -1;
        int least = Integer.MAX_VALUE;
        int many = now.hearers.size();
        for (int h = 0; h < many; h++) {
            Here w = now.again();
            for (int k = 1; k < many; k++) {
                tells(w, j, (h + k) % many);
            }
            int lost = worth(now, j, h) - worth(w, j, h);
            if (lost < least) {
                least = lost;
                best = h;
            }
        }
        return best;
    }

    private int minute(int laughing, int there) {
        int then = laughing;
        for (int h = 0; h < now.hearers.size(); h++) {
            int many = 0;
            for (int f = 0; f < now.hearers.size(); f++) {
                if ((now.hearers.get(h).friends >> f & there >> f & laughing >> f & 1) == 1) {
                    many++;
                }
            }
            if ((there >> h & 1) == 1 && many >= now.hearers.get(h).catches) {
                then |= 1 << h;
            }
        }
        return then;
    }

    private int atLast(int first, int there) {
        int laughing = first;
        while (minute(laughing, there) != laughing) {
            laughing = minute(laughing, there);
        }
        return laughing;
    }

    int caught(int first, int minutes) {
        if (!bits(first) || minutes < 0 || minutes > 9) {
            return -2;
        }
        int laughing = first;
        for (int k = 0; k < minutes; k++) {
            laughing = minute(laughing, all());
        }
        return laughing;
    }

    int panic(int first, int what) {
        if (!bits(first) || what < 0 || what > 1) {
            return -2;
        }
        int minutes = 0;
        int laughing = first;
        while (minute(laughing, all()) != laughing) {
            laughing = minute(laughing, all());
            minutes++;
        }
        return what == 0 ? laughing : minutes;
    }

    int seeds(int what) {
        if (what < 0 || what > 1) {
            return -2;
        }
        for (int many = 0; many <= 6; many++) {
            for (int first = 0; first <= all(); first++) {
                if (Integer.bitCount(first) == many && atLast(first, all()) == all()) {
                    return what == 0 ? first : many;
                }
            }
        }
        return -99;
    }

    int stop(int first, int many) {
        if (!bits(first) || many < 0 || many > 6) {
            return -2;
        }
        for (int few = 0; few <= 6; few++) {
            for (int away = 0; away <= all(); away++) {
                if (Integer.bitCount(away) == few && (away & first) == 0
                    && Integer.bitCount(atLast(first, all() - away)) <= many) {
                    return away;
                }
            }
        }
        return -1;
    }

    private int goes(int j, int first, int days) {
        boolean[] has = new boolean[now.hearers.size()];
        for (int h = 0; h < has.length; h++) {
            has[h] = (first >> h & 1) == 1;
        }
        for (int k = 0; k < days; k++) {
            boolean[] had = has.clone();
            for (int h = 0; h < has.length; h++) {
                int on = had[h] ? now.jokes.get(j).on() : 0;
                for (int f = 0; f < has.length; f++) {
                    if (on > 0 && (now.hearers.get(h).friends >> f & 1) == 1 && !has[f]) {
                        has[f] = true;
                        on--;
                    }
                }
            }
        }
        int bits = 0;
        for (int h = 0; h < has.length; h++) {
            bits += has[h] ? 1 << h : 0;
        }
        return bits;
    }

    int spread(int j, int first, int days) {
        return !j(j) ? -5 : !bits(first) || days < 0 || days > 20 ? -7 : goes(j, first, days);
    }

    int through(int j, int h) {
        if (!j(j) || !h(h)) {
            return !j(j) ? -5 : -6;
        }
        for (int days = 0; days <= 6; days++) {
            if (goes(j, 1 << h, days) == all()) {
                return days;
            }
        }
        return -1;
    }

    int origin(int j, int have, int days) {
        if (!j(j)) {
            return -5;
        }
        if (!bits(have) || days < 0 || days > 20) {
            return -7;
        }
        int bits = 0;
        for (int h = 0; h < now.hearers.size(); h++) {
            bits += goes(j, 1 << h, days) == have ? 1 << h : 0;
        }
        return bits;
    }

    int furthest(int j, int days, int what) {
        if (!j(j)) {
            return -5;
        }
        if (days < 0 || days > 20 || what < 0 || what > 1) {
            return -7;
        }
        for (int many = 6; many > 0; many--) {
            for (int h = 0; h < now.hearers.size(); h++) {
                if (Integer.bitCount(goes(j, 1 << h, days)) == many) {
                    return what == 0 ? h : many;
                }
            }
        }
        return -1;
    }

    private static boolean town(int a) {
        return a >= 0 && a <= 3;
    }

    int rate(int a, int b, int v) {
        if (!town(a) || !town(b) || a == b) {
            return -5;
        }
        if (v < 1 || v > 999) {
            return -7;
        }
        int was = now.rates[a][b];
        now.rates[a][b] = v;
        return was;
    }

    long change(int a, int b, int much) {
        if (!town(a) || !town(b) || much < 0 || much > 9999) {
            return NO;
        }
        return a == b ? much : (long) much * now.rates[a][b] / 100;
    }

    /** Rounds as texts of digits: by numbers, back to the first as its own digit. */
    long gain(int a, int much, int what) {
        if (!town(a) || much < 0 || much > 9999 || what < 0 || what > 1) {
            return NO;
        }
        List<String> rounds = new ArrayList<>();
        for (int b = 0; b < 4; b++) {
            for (int c = 0; c < 4; c++) {
                for (int d = 0; d < 4; d++) {
                    if (b != a && c != a && d != a && c != b && d != b && d != c) {
                        rounds.add("" + b + c + d + a);
                        rounds.add("" + b + c + a);
                        rounds.add("" + b + a);
                    }
                }
            }
        }
        java.util.Collections.sort(rounds);
        long best = much;
        String bestRound = "";
        for (String round : rounds) {
            long v = much;
            int at = a;
            for (char c : round.toCharArray()) {
                v = v * now.rates[at][c - '0'] / 100;
                at = c - '0';
            }
            if (v > best) {
                best = v;
                bestRound = round.substring(0, round.length() - 1);
            }
        }
        long digits = 0;
        for (char c : bestRound.toCharArray()) {
            digits = digits * 10 + c - '0' + 1;
        }
        return what == 0 ? digits : best;
    }

    private int size(int s) {
        return java.lang.reflect.Array.getLength(sheets[s]);
    }

    private int number(int s, int i) {
        return java.lang.reflect.Array.getInt(sheets[s], i);
    }

    private static boolean s(int s) {
        return s >= 0 && s <= 3;
    }

    private int refused(int s) {
        return !s(s) ? -2 : sheets[s] == null ? -11 : size(s) != now.jokes.size() ? -2 : 0;
    }

    private int refused(int s, int h) {
        return refused(s) != 0 ? refused(s) : h(h) ? 0 : -6;
    }

    private int otherwise(Here w, int s, int h) {
        for (int j = 0; j < w.jokes.size(); j++) {
            if (worth(w, j, h) != number(s, j)) {
                return j;
            }
        }
        return -1;
    }

    int judge(int s, int h) {
        return refused(s, h) != 0 ? refused(s, h) : otherwise(now, s, h);
    }

    int humours(int s, int h) {
        int bits = 0;
        for (int fun = 0; fun < 10 && refused(s, h) == 0; fun++) {
            Here w = now.again();
            w.hearers.get(h).humour = fun;
            bits += otherwise(w, s, h) == -1 ? 1 << fun : 0;
        }
        return refused(s, h) != 0 ? refused(s, h) : bits;
    }

    int heards(int s, int h, int what) {
        if (refused(s, h) != 0) {
            return refused(s, h);
        }
        if (what < 0 || what > 2) {
            return -7;
        }
        List<Integer> sets = new ArrayList<>();
        for (int set = 0; set < 1 << now.jokes.size(); set++) {
            Here w = now.again();
            w.hearers.get(h).heard = set;
            if (otherwise(w, s, h) == -1) {
                sets.add(set);
            }
        }
        if (what == 0) {
            return sets.size();
        }
        int bits = 0;
        for (int j = 0; j < now.jokes.size(); j++) {
            int many = 0;
            for (int set : sets) {
                many += set >> j & 1;
            }
            bits += many == (what == 1 ? sets.size() : 0) ? 1 << j : 0;
        }
        return sets.isEmpty() ? -1 : bits;
    }

    private int refusedJoke(int s, int h, int jokeAnd) {
        if (refused(s, h) != 0) {
            return refused(s, h);
        }
        return !j(Math.floorDiv(jokeAnd, 10)) ? -5 : Math.floorMod(jokeAnd, 10) > 1 ? -7 : 0;
    }

    int kinds(int s, int h, int jokeSort) {
        if (refusedJoke(s, h, jokeSort) != 0) {
            return refusedJoke(s, h, jokeSort);
        }
        int j = jokeSort / 10;
        boolean kinds = jokeSort % 10 == 0;
        int bits = 0;
        for (int k = 0; k < (kinds ? 6 : 10); k++) {
            Here w = now.again();
            Joke was = w.jokes.get(j);
            Joke other = kinds ? jokeOf(k, was.more) : jokeOf(was.kind, k);
            other.worn = was.worn;
            w.jokes.set(j, other);
            bits += otherwise(w, s, h) == -1 ? 1 << k : 0;
        }
        return bits;
    }

    int wear(int s, int h, int jokeWhat) {
        if (refusedJoke(s, h, jokeWhat) != 0) {
            return refusedJoke(s, h, jokeWhat);
        }
        List<Integer> fit = new ArrayList<>();
        for (int worn = 0; worn < 100; worn++) {
            Here w = now.again();
            w.jokes.get(jokeWhat / 10).worn = worn;
            if (otherwise(w, s, h) == -1) {
                fit.add(worn);
            }
        }
        return jokeWhat % 10 == 0 ? fit.size() : fit.isEmpty() ? -1 : fit.get(0);
    }

    int whose(int s) {
        int bits = 0;
        for (int h = 0; h < now.hearers.size() && refused(s) == 0; h++) {
            bits += otherwise(now, s, h) == -1 ? 1 << h : 0;
        }
        return refused(s) != 0 ? refused(s) : bits;
    }

    int laws(int s, int h) {
        int bits = 0;
        for (int t = 0; t < texts.size() && refused(s, h) == 0; t++) {
            Here w = now.again();
            w.law = t;
            bits += otherwise(w, s, h) == -1 ? 1 << t : 0;
        }
        return refused(s, h) != 0 ? refused(s, h) : bits;
    }

    long amiss(int s, int h) {
        if (refused(s, h) != 0) {
            return NO;
        }
        long sum = 0;
        for (int j = 0; j < now.jokes.size(); j++) {
            Joke joke = now.jokes.get(j);
            long apart = (long) number(s, j) - worth(now, j, h);
            sum += (apart < 0 ? -apart : apart) * says(now, 2, joke.worn, h, joke.more);
        }
        return sum;
    }

    int film(int s, int h) {
        if (!s(s) || !h(h)) {
            return !s(s) ? -2 : -6;
        }
        byte[] row = new byte[now.jokes.size()];
        for (int j = 0; j < row.length; j++) {
            row[j] = (byte) worth(now, j, h);
        }
        sheets[s] = row;
        return row.length;
    }

    private int drawing(int seed, int n) {
        Here w = now.again();
        java.math.BigInteger lot = java.math.BigInteger.valueOf(seed).add(java.math.BigInteger.ONE);
        int sum = 0;
        for (int k = 0; k < n; k++) {
            lot = lot.multiply(java.math.BigInteger.valueOf(48271)).mod(java.math.BigInteger.valueOf(2147483647));
            int v = lot.intValue();
            sum += tells(w, v % w.jokes.size(), v / w.jokes.size() % w.hearers.size());
        }
        return sum;
    }

    int drawn(int seed, int n) {
        return seed < 0 || seed > 99999 || n < 0 || n > 50 ? -2 : none() ? -1 : drawing(seed, n);
    }

    long odds(int seed, int manySeeds, int much, int part) {
        int many = Math.floorDiv(manySeeds, 100);
        int seeds = Math.floorMod(manySeeds, 100);
        if (seed < 0 || seed > 99999 || many < 0 || many > 50 || seeds < 1 || seeds > 50 || much < 0 || much > 9999
            || part < 0 || part > 1 || none()) {
            return NO;
        }
        int above = 0;
        for (int k = 0; k < seeds; k++) {
            above += drawing(seed + k, many) >= much ? 1 : 0;
        }
        int d = java.math.BigInteger.valueOf(above).gcd(java.math.BigInteger.valueOf(seeds)).intValue();
        return part == 0 ? above / d : seeds / d;
    }

    int image() {
        kept = now.again();
        return kept.jokes.size();
    }

    int back() {
        if (kept == null) {
            return -3;
        }
        now = kept.again();
        return now.jokes.size();
    }

    int sheet(int s, int sort, int n) {
        if (!s(s) || sort < -1 || sort > 2 || sort >= 0 && n > 40) {
            return -2;
        }
        if (sort >= 0 && n < 0) {
            return -14;
        }
        sheets[s] = sort < 0 ? null : sort == 0 ? new byte[n] : sort == 1 ? new short[n] : new int[n];
        return 1;
    }

    int cell(int s, int i, int v) {
        if (!s(s) || sheets[s] == null) {
            return !s(s) ? -2 : -11;
        }
        if (i < 0 || i >= size(s)) {
            return -12;
        }
        if (sheets[s] instanceof byte[]) {
            ((byte[]) sheets[s])[i] = (byte) v;
        } else if (sheets[s] instanceof short[]) {
            ((short[]) sheets[s])[i] = (short) v;
        } else {
            ((int[]) sheets[s])[i] = v;
        }
        return 1;
    }

    int copy(int s, int i, int other, int j, int n) {
        if (!s(s) || !s(other)) {
            return -2;
        }
        try {
            System.arraycopy(sheets[s], i, sheets[other], j, n);
            return n;
        } catch (NullPointerException e) {
            return -11;
        } catch (ArrayStoreException e) {
            return -13;
        } catch (IndexOutOfBoundsException e) {
            return -12;
        }
    }

    int jokesBy(int s, int sort, int at, int n) {
        if (!s(s) || sort < 0 || sort > 2 || n < 0 || n > 5) {
            return -2;
        }
        if (sheets[s] == null) {
            return -11;
        }
        if ((sheets[s] instanceof byte[] ? 0 : sheets[s] instanceof short[] ? 1 : 2) != sort) {
            return -13;
        }
        int came = 0;
        for (long k = 0; k < n; k++) {
            long place = at + 2 * k;
            if (place < 0 || place + 1 >= size(s)) {
                return -12;
            }
            came += joke(number(s, (int) place), number(s, (int) place + 1)) >= 0 ? 1 : 0;
        }
        return came;
    }

    int taken(int i, int kind) {
        if (kind < 0 || kind > 6) {
            return -2;
        }
        if (i < 0 || i > 10) {
            return -12;
        }
        if (i < 5) {
            return !j(i) ? -11 : kind < 6 && classOf(kind).isInstance(now.jokes.get(i)) ? i : -13;
        }
        return !h(i - 5) ? -11 : kind == 6 ? now.hearers.get(i - 5).purse : -13;
    }
}
