import java.math.BigInteger;
import java.util.ArrayList;
import java.util.List;
import java.util.regex.Matcher;
import java.util.regex.Pattern;

/**
 * The document once more, written another way and without thrift: every call makes a copy and answers
 * from it by trying all there is. Calls are by name, so that runs can be drawn.
 */
final class Model {
    private static final class Piece {
        int kind;
        int figure;
        int seat;
        int weight;
        int state;
        int drives;

        Piece copy() {
            Piece c = new Piece();
            c.kind = kind;
            c.figure = figure;
            c.seat = seat;
            c.weight = weight;
            c.state = state;
            c.drives = drives;
            return c;
        }
    }

    private static final class World {
        List<Piece> pieces = new ArrayList<>();
        int pace = 50;
        int cold = 5;
        int load = 0;
        int radio = 0;
        int miles = 0;

        World copy() {
            World c = new World();
            for (Piece p : pieces) {
                c.pieces.add(p.copy());
            }
            c.pace = pace;
            c.cold = cold;
            c.load = load;
            c.radio = radio;
            c.miles = miles;
            return c;
        }
    }

    private World now = new World();
    private World image = null;
    /** null nothing, Integer[] {kind, figure}, byte[], short[] or int[]. */
    private final Object[] shelf = new Object[8];

    // ---- figures of kinds

    private static int loud(Piece p, int pace, int cold, int load) {
        boolean fifty = 48 <= pace && pace <= 53;
        int f = p.figure;
        switch (p.kind) {
            case 0: return fifty ? f : 0;
            case 1: return pace < 30 ? 0 : f;
            case 2: return fifty ? 2 * f : 0;
            case 3: return pace < 30 || cold < 5 ? 0 : f;
            case 4: return fifty && f > load ? f - load : 0;
            case 5: return !fifty || f == 0 ? 0 : pace % 2 == 0 ? 2 * f + 3 : 2 * f;
            case 6: return 0;
            default: return fifty && f > load ? 2 * (f - load) : 0;
        }
    }

    private static int seconds(int kind, int f) {
        return new int[] {10, 6, 10 + f, 12, 15, 12 + f, 10, 15}[kind];
    }

    private static int loosens(int kind) {
        return new int[] {1, 3, 1, 3, 1, 1, 0, 1}[kind];
    }

    private static int costs(int kind, int f) {
        return new int[] {3, 2, 3 + f, 4, 9, 5 + f, 4, 9 + f}[kind];
    }

    // ---- the world

    private static int there(World w, int i, int seat, int pace) {
        Piece p = w.pieces.get(i);
        if (p.state != 0) {
            return 0;
        }
        int apart = p.seat > seat ? p.seat - seat : seat - p.seat;
        int sound = loud(p, pace, w.cold, w.load) - apart;
        return sound < 0 ? 0 : sound;
    }

    private static int together(World w, int seat, int pace) {
        int sum = 0;
        for (int i = 0; i < w.pieces.size(); i++) {
            sum += there(w, i, seat, pace);
        }
        return sum;
    }

    private static int hear(World w, int seat, int pace) {
        int sum = together(w, seat, pace) - w.radio;
        return sum > 0 ? sum : 0;
    }

    private static void settle(World w) {
        for (Piece p : w.pieces) {
            if (p.state == 1) {
                p.state = 0;
            }
            if (p.state == 2 && ++p.drives == 2) {
                p.state = 0;
            }
        }
    }

    private static boolean isPart(World w, int p) {
        return 0 <= p && p < w.pieces.size();
    }

    private static int doScrew(World w, int p) {
        int n = w.pieces.size();
        w.pieces.get(p).figure = 0;
        if (n == 1) {
            return 0;
        }
        Piece next = w.pieces.get((p + 1) % n);
        next.figure = Math.min(9, next.figure + loosens(next.kind));
        return next.figure;
    }

    private static int doHold(World w, int p) {
        if (!isPart(w, p)) {
            return -1;
        }
        Piece piece = w.pieces.get(p);
        if (piece.state == 3) {
            return -3;
        }
        piece.state = 1;
        return seconds(piece.kind, piece.figure);
    }

    private static int doWedge(World w, int p) {
        if (!isPart(w, p)) {
            return -1;
        }
        Piece piece = w.pieces.get(p);
        if (piece.state == 3) {
            return -3;
        }
        int was = piece.state;
        piece.state = 2;
        piece.drives = 0;
        return was;
    }

    private static int doOut(World w, int p) {
        if (!isPart(w, p)) {
            return -1;
        }
        Piece piece = w.pieces.get(p);
        piece.state = piece.state == 3 ? 0 : 3;
        return piece.state;
    }

    private static int doSet(World w, int what, int v) {
        int was;
        if (v < 0) {
            return -1;
        }
        if (what == 0 && v <= 99) {
            was = w.pace;
            w.pace = v;
        } else if (what == 1 && v <= 9) {
            was = w.cold;
            w.cold = v;
        } else if (what == 2 && v <= 5) {
            was = w.load;
            w.load = v;
        } else if (what == 3 && v <= 40) {
            was = w.radio;
            w.radio = v;
        } else {
            return -1;
        }
        return was;
    }

    private static int doDrive(World w, int miles) {
        if (miles < 1 || miles > 99) {
            return -1;
        }
        if (w.miles > 9999 - miles) {
            return -3;
        }
        int heard = hear(w, 0, w.pace);
        w.miles += miles;
        settle(w);
        return heard;
    }

    private static int doAdd(World w, int kind, int figure, int seat, int weight) {
        if (kind > 7 || seat > 3 || weight < 1) {
            return -1;
        }
        if (w.pieces.size() == 7) {
            return -2;
        }
        Piece p = new Piece();
        p.kind = kind;
        p.figure = figure;
        p.seat = seat;
        p.weight = weight;
        w.pieces.add(p);
        return w.pieces.size() - 1;
    }

    // ---- the text

    private static final Pattern WHOLE = Pattern.compile("(p\\d{4};|[srd]\\d\\d;|[clhwot]\\d;)+");
    private static final Pattern ONE = Pattern.compile("([a-z])(\\d+);");

    private int road(int d) {
        if (bad(d)) {
            return -1;
        }
        if (shelf[d] == null) {
            return -11;
        }
        if (!(shelf[d] instanceof byte[])) {
            return -12;
        }
        StringBuilder letters = new StringBuilder();
        for (byte b : (byte[]) shelf[d]) {
            letters.append((char) (b & 255));
        }
        String text = letters.toString();
        // The first place such that no text at all begins with what stands up to it.
        for (int n = 0; n <= text.length(); n++) {
            String head = text.substring(0, n);
            if (!canGoOn(head)) {
                return -1000 - (n - 1);
            }
        }
        if (!WHOLE.matcher(text).matches()) {
            return -1000 - text.length();
        }
        return follow(text);
    }

    private static boolean canGoOn(String head) {
        if (head.isEmpty()) {
            return true;
        }
        for (String rest : new String[] {"", ";", "0;", "00;", "000;", "0000;"}) {
            if (WHOLE.matcher(head + rest).matches()) {
                return true;
            }
        }
        return false;
    }

    private int follow(String text) {
        World w = now.copy();
        int many = 0;
        Matcher m = ONE.matcher(text);
        while (m.find()) {
            int v = Integer.parseInt(m.group(2));
            int answer;
            switch (m.group(1)) {
                case "p": answer = doAdd(w, v / 1000, v / 100 % 10, v / 10 % 10, v % 10); break;
                case "s": answer = doSet(w, 0, v); break;
                case "c": answer = doSet(w, 1, v); break;
                case "l": answer = doSet(w, 2, v); break;
                case "r": answer = doSet(w, 3, v); break;
                case "h": answer = doHold(w, v); break;
                case "w": answer = doWedge(w, v); break;
                case "o": answer = doOut(w, v); break;
                case "t": answer = isPart(w, v) ? doScrew(w, v) : -1; break;
                default: answer = doDrive(w, v); break;
            }
            if (answer < 0) {
                return -2000 - m.start();
            }
            many++;
        }
        now = w;
        return many;
    }

    // ---- shelves

    private static boolean bad(int d) {
        return d < 0 || d > 7;
    }

    private static boolean isRow(Object o) {
        return o instanceof byte[] || o instanceof short[] || o instanceof int[];
    }

    private static int length(Object row) {
        return java.lang.reflect.Array.getLength(row);
    }

    private static int at(Object row, int i) {
        return java.lang.reflect.Array.getInt(row, i);
    }

    private static boolean skipped(Object row, int i) {
        return row instanceof byte[] ? at(row, i) == Byte.MIN_VALUE
            : row instanceof short[] ? at(row, i) == Short.MIN_VALUE : at(row, i) == Integer.MIN_VALUE;
    }

    private static void store(Object row, int i, int v) {
        if (row instanceof byte[]) {
            ((byte[]) row)[i] = (byte) v;
        } else if (row instanceof short[]) {
            ((short[]) row)[i] = (short) v;
        } else {
            ((int[]) row)[i] = v;
        }
    }

    /** -1, -11, -12 of a call that wants a ROW, else 0. */
    private int wantsRow(int d) {
        return bad(d) ? -1 : shelf[d] == null ? -11 : isRow(shelf[d]) ? 0 : -12;
    }

    private int wantsKind(int d) {
        return bad(d) ? -1 : shelf[d] == null ? -11 : isRow(shelf[d]) ? -12 : 0;
    }

    private int copies(int d, int i, int e, int j, int n) {
        if (bad(d) || bad(e)) {
            return -1;
        }
        if (shelf[d] == null || shelf[e] == null) {
            return -11;
        }
        if (!isRow(shelf[d]) || !isRow(shelf[e]) || shelf[d].getClass() != shelf[e].getClass()) {
            return -12;
        }
        long from = i;
        long to = j;
        if (n < 0 || i < 0 || j < 0 || from + n > length(shelf[d]) || to + n > length(shelf[e])) {
            return -13;
        }
        int[] between = new int[n];
        for (int k = 0; k < n; k++) {
            between[k] = at(shelf[d], i + k);
        }
        for (int k = 0; k < n; k++) {
            store(shelf[e], j + k, between[k]);
        }
        return n;
    }

    // ---- which it is

    private int wantsPairs(int d) {
        int refusal = wantsRow(d);
        if (refusal != 0) {
            return refusal;
        }
        Object row = shelf[d];
        if (length(row) % 2 == 1) {
            return -13;
        }
        for (int i = 0; i < length(row); i++) {
            int v = at(row, i);
            if (v < 0 || v > (i % 2 == 0 ? 99 : 1)) {
                return -13;
            }
        }
        return 0;
    }

    private boolean fits(Object row, int... parts) {
        for (int i = 0; i < length(row); i += 2) {
            int most = 0;
            for (int p : parts) {
                most = Math.max(most, loud(now.pieces.get(p), at(row, i), now.cold, now.load));
            }
            if ((most > 0 ? 1 : 0) != at(row, i + 1)) {
                return false;
            }
        }
        return true;
    }

    private int suspects(Object row) {
        int set = 0;
        for (int p = 0; p < now.pieces.size(); p++) {
            set += fits(row, p) ? 1 << p : 0;
        }
        return set;
    }

    private int two(Object row, int what) {
        int many = 0;
        int first = -4;
        for (int p = now.pieces.size() - 1; p >= 0; p--) {
            for (int q = now.pieces.size() - 1; q > p; q--) {
                if (fits(row, p, q) && !fits(row, p) && !fits(row, q)) {
                    many++;
                    first = 10 * p + q;
                }
            }
        }
        return what == 0 ? many : first;
    }

    private int tryNext(Object row) {
        int set = suspects(row);
        if (Integer.bitCount(set) < 2) {
            return -4;
        }
        int best = -1;
        int most = -1;
        for (int pace = 99; pace >= 0; pace--) {
            int yes = 0;
            int no = 0;
            for (int p = 0; p < now.pieces.size(); p++) {
                if ((set >> p) % 2 == 1) {
                    Piece piece = now.pieces.get(p);
                    if (loud(piece, pace, now.cold, now.load) > 0) {
                        yes += piece.weight;
                    } else {
                        no += piece.weight;
                    }
                }
            }
            if (Math.min(yes, no) >= most) {
                most = Math.min(yes, no);
                best = pace;
            }
        }
        return best;
    }

    private int weightOf(int set) {
        int sum = 0;
        for (int p = 0; p < now.pieces.size(); p++) {
            sum += (set >> p) % 2 * now.pieces.get(p).weight;
        }
        return sum;
    }

    private boolean isSet(int set) {
        return 1 <= set && set <= 127 && set >> now.pieces.size() == 0;
    }

    /** The mean of HALVES times all WEIGHTS, by trying each way to hold some of what is in doubt. */
    private int halves(int set, int[] known) {
        if (Integer.bitCount(set) == 1) {
            return 0;
        }
        if (known[set] == 0) {
            int best = Integer.MAX_VALUE;
            for (int held = (set - 1) & set; held > 0; held = (held - 1) & set) {
                best = Math.min(best, halves(held, known) + halves(set - held, known));
            }
            known[set] = best + weightOf(set);
        }
        return known[set];
    }

    private int oneByOne(int set) {
        List<Integer> weights = new ArrayList<>();
        for (int p = 0; p < now.pieces.size(); p++) {
            if ((set >> p) % 2 == 1) {
                weights.add(now.pieces.get(p).weight);
            }
        }
        weights.sort((a, b) -> b - a);
        int sum = 0;
        for (int i = 0; i < weights.size(); i++) {
            sum += weights.get(i) * Math.min(i + 1, weights.size() - 1);
        }
        return sum;
    }

    private static long reduced(long above, long below, int part) {
        if (below == 0) {
            return part;
        }
        BigInteger g = BigInteger.valueOf(above).gcd(BigInteger.valueOf(below));
        return (part == 0 ? above : below) / g.longValue();
    }

    private static int gone(int s, int t) {
        if (s < 1 || s > 9 || t < 2 || t > 50) {
            return -1;
        }
        for (int n = 0; n <= 60; n++) {
            BigInteger silentThough = BigInteger.valueOf(10 - s).pow(n);
            BigInteger silentGone = BigInteger.TEN.pow(n);
            // silentThough / (silentThough + silentGone) <= 1 / t
            if (silentThough.multiply(BigInteger.valueOf(t)).compareTo(silentThough.add(silentGone)) <= 0) {
                return n;
            }
        }
        return -4;
    }

    private int wantsSeats(int d) {
        int refusal = wantsRow(d);
        if (refusal != 0) {
            return refusal;
        }
        for (int i = 0; i < length(shelf[d]); i++) {
            if (i == 8 || at(shelf[d], i) < 0 || at(shelf[d], i) > 3) {
                return -13;
            }
        }
        return 0;
    }

    private long[] likelihoods(Object row, int r) {
        long[] all = new long[4];
        for (int seat = 0; seat < 4; seat++) {
            all[seat] = 1;
            for (int i = 0; i < length(row); i++) {
                all[seat] *= at(row, i) == seat ? r * 3 : 10 - r;
            }
        }
        return all;
    }

    // ---- mends, told drives

    private static int loudest(World w, int seat) {
        int best = -4;
        for (int p = w.pieces.size() - 1; p >= 0; p--) {
            int sound = there(w, p, seat, w.pace);
            if (sound > 0 && (best < 0 || sound >= there(w, best, seat, w.pace))) {
                best = p;
            }
        }
        return best;
    }

    private static int figures(World w) {
        int sum = 0;
        for (Piece p : w.pieces) {
            sum += p.figure;
        }
        return sum;
    }

    private int mends(int what) {
        World w = now.copy();
        for (int times = 0; times <= 60; times++) {
            if (together(w, 0, w.pace) == 0) {
                return what == 0 ? times : figures(w);
            }
            if (times < 60) {
                doScrew(w, loudest(w, 0));
            }
        }
        return what == 0 ? -4 : figures(w);
    }

    private static int mechanic(int s, int h, int cost, int what) {
        for (int n = 0; n <= 9; n++) {
            BigInteger all = BigInteger.TEN.pow(n);
            BigInteger heard = all.subtract(BigInteger.valueOf(10 - s).pow(n));
            if (heard.multiply(BigInteger.TEN).compareTo(all.multiply(BigInteger.valueOf(h))) >= 0) {
                return what == 0 ? n : n * cost;
            }
        }
        return -4;
    }

    private int worth(int v) {
        int each = hear(now, 0, now.pace);
        if (each == 0) {
            return -4;
        }
        int miles = 0;
        while (miles < 99 && (miles + 1) * each <= v) {
            miles++;
        }
        return miles;
    }

    private int quiet(Object row, int what) {
        if (length(row) > now.pieces.size()) {
            return -13;
        }
        World w = now.copy();
        for (int i = 0; i < length(row); i++) {
            if (!skipped(row, i)) {
                if (at(row, i) < 0 || at(row, i) > 3) {
                    return -13;
                }
                w.pieces.get(i).state = at(row, i);
            }
        }
        List<Integer> silent = new ArrayList<>();
        for (int pace = 0; pace < 100; pace++) {
            if (hear(w, 0, pace) == 0) {
                silent.add(pace);
            }
        }
        return what == 0 ? silent.size() : silent.isEmpty() ? -4 : silent.get(0);
    }

    private int forged(Object row) {
        for (int place = 0; place < length(row); place++) {
            boolean some = false;
            for (int load = 0; load <= 5; load++) {
                World w = now.copy();
                w.load = load;
                boolean all = true;
                for (int i = 0; i <= place; i++) {
                    all &= skipped(row, i) || at(row, i) == hear(w, 0, i);
                }
                some |= all;
            }
            if (!some) {
                return place;
            }
        }
        return -4;
    }

    private int judge(Object row) {
        World w = now.copy();
        for (int i = 0; i < length(row); i++) {
            int heard = hear(w, 0, w.pace);
            settle(w);
            if (!skipped(row, i) && heard != at(row, i)) {
                return i;
            }
        }
        return -4;
    }

    private int winters(int n, int z, int what) {
        int seed = z;
        int many = 0;
        int all = 0;
        for (int winter = 0; winter < n; winter++) {
            World w = now.copy();
            for (int drive = 0; drive < 10; drive++) {
                seed = seed * 1103515245 + 12345;
                w.pace = (seed & 0x7fffffff) / 65536 % 100;
                seed = seed * 1103515245 + 12345;
                w.cold = (seed & 0x7fffffff) / 65536 % 10;
                int heard = hear(w, 0, w.pace);
                many += heard == 0 ? 0 : 1;
                all += heard;
                settle(w);
            }
        }
        return what == 0 ? many : all;
    }

    // ---- what is heard

    private int holdAll(int what) {
        int best = -1;
        for (int set = 127; set >= 0; set--) {
            World w = now.copy();
            boolean can = true;
            int seconds = 0;
            for (int p = 0; p < 7; p++) {
                if (set >> p << 31 != 0) {
                    can &= p < w.pieces.size() && w.pieces.get(p).state == 0;
                    if (can) {
                        seconds += doHold(w, p);
                    }
                }
            }
            if (can && hear(w, 0, w.pace) == 0
                    && (best < 0 || Integer.bitCount(set) <= Integer.bitCount(best & 127))) {
                best = set + 128 * seconds;
            }
        }
        return what == 0 ? best % 128 : best / 128;
    }

    private int wanted(int what) {
        int best = -4;
        for (int v = what == 0 ? 5 : 0; what == 0 ? v >= 0 : v <= 9; v += what == 0 ? -1 : 1) {
            World w = now.copy();
            doSet(w, what == 0 ? 2 : 1, v);
            best = hear(w, 0, w.pace) == 0 ? v : best;
        }
        return best;
    }

    private int radio(int seat) {
        for (int radio = 0; radio <= 40; radio++) {
            World w = now.copy();
            w.radio = radio;
            if (hear(w, seat, w.pace) == 0) {
                return radio;
            }
        }
        return -4;
    }

    private int paces(int seat, int what) {
        List<Integer> heard = new ArrayList<>();
        for (int pace = 0; pace < 100; pace++) {
            if (hear(now, seat, pace) != 0) {
                heard.add(pace);
            }
        }
        return what == 0 ? heard.size() : heard.isEmpty() ? -4 : heard.get(what == 1 ? 0 : heard.size() - 1);
    }

    private int part(int p, int what) {
        if (!isPart(now, p) || what < 0 || what > 7) {
            return -1;
        }
        Piece o = now.pieces.get(p);
        return new int[] {o.kind, o.figure, o.seat, o.weight, o.state, loud(o, now.pace, now.cold, now.load),
            seconds(o.kind, o.figure), loosens(o.kind)}[what];
    }

    private int count(int what) {
        int free = 0;
        for (int p = 0; p < now.pieces.size(); p++) {
            free += now.pieces.get(p).state == 0 ? 1 << p : 0;
        }
        int[] all = {now.pieces.size(), now.miles, now.pace, now.cold, now.load, now.radio, figures(now), free};
        return what < 0 || what > 7 ? -1 : all[what];
    }

    private static boolean either(int what) {
        return what == 0 || what == 1;
    }

    private static boolean seat(int s) {
        return s >= 0 && s <= 3;
    }

    private static boolean pace(int p) {
        return p >= 0 && p <= 99;
    }

    /** What the call of that name answers. */
    long answer(String call, int... a) {
        switch (call) {
            case "road": return road(a[0]);
            case "part": return part(a[0], a[1]);
            case "adds": return adds(a[0], a[1], a[2]);
            case "holds": return doHold(now, a[0]);
            case "wedges": return doWedge(now, a[0]);
            case "outs": return doOut(now, a[0]);
            case "screws": return isPart(now, a[0]) ? doScrew(now, a[0]) : -1;
            case "set": return doSet(now, a[0], a[1]);
            case "drives": return doDrive(now, a[0]);
            case "heard": return seat(a[0]) && pace(a[1]) ? hear(now, a[0], a[1]) : -1;
            case "loudest": return seat(a[0]) ? loudest(now, a[0]) : -1;
            case "paces": return seat(a[0]) && a[1] >= 0 && a[1] <= 2 ? paces(a[0], a[1]) : -1;
            case "silentFrom": return seat(a[0]) && pace(a[1]) ? silentFrom(a[0], a[1]) : -1;
            case "holdAll": return either(a[0]) ? holdAll(a[0]) : -1;
            case "radio": return seat(a[0]) ? radio(a[0]) : -1;
            case "wanted": return either(a[0]) ? wanted(a[0]) : -1;
            case "bestSeat": return bestSeat();
            case "mends": return either(a[0]) ? mends(a[0]) : -1;
            case "worth": return a[0] < 0 || a[0] > 9999 ? -1 : worth(a[0]);
            case "gone": return gone(a[0], a[1]);
            case "image": image = now.copy(); return now.miles;
            case "restore": return restore();
            case "count": return count(a[0]);
            default: return answerOfRows(call, a);
        }
    }

    private long answerOfRows(String call, int... a) {
        switch (call) {
            case "which": return which(a[0], a[1]);
            case "two": {
                int refusal = either(a[1]) ? wantsPairs(a[0]) : -1;
                return refusal != 0 ? refusal : two(shelf[a[0]], a[1]);
            }
            case "tryNext": return wantsPairs(a[0]) != 0 ? wantsPairs(a[0]) : tryNext(shelf[a[0]]);
            case "halves": return isSet(a[0]) && either(a[1])
                ? reduced(halves(a[0], new int[128]), weightOf(a[0]), a[1]) : -1000000001L;
            case "oneByOne": return isSet(a[0]) && either(a[1])
                ? reduced(oneByOne(a[0]), weightOf(a[0]), a[1]) : -1000000001L;
            case "worse": return isSet(a[0]) ? oneByOne(a[0]) - halves(a[0], new int[128]) : -1;
            case "ear": return ear(a[0], a[1], a[2], a[3]);
            case "likeliest": return likeliest(a[0], a[1]);
            case "mechanic": return a[0] < 0 || a[0] > 9 || a[1] < 1 || a[1] > 9 || a[2] < 0 || a[2] > 99
                || !either(a[3]) ? -1 : mechanic(a[0], a[1], a[2], a[3]);
            case "quiet": {
                int refusal = either(a[1]) ? wantsRow(a[0]) : -1;
                return refusal != 0 ? refusal : quiet(shelf[a[0]], a[1]);
            }
            case "forged": return wantsRow(a[0]) != 0 ? wantsRow(a[0]) : forged(shelf[a[0]]);
            case "judge": return wantsRow(a[0]) != 0 ? wantsRow(a[0]) : judge(shelf[a[0]]);
            case "winters": return a[0] < 1 || a[0] > 20 || !either(a[2]) ? -1 : winters(a[0], a[1], a[2]);
            case "keep": return keep(a[0], a[1], a[2], a[3]);
            case "row": return row(a[0], a[1], a[2]);
            case "put": return put(a[0], a[1], a[2]);
            case "element": return element(a[0], a[1]);
            case "copy": return copies(a[0], a[1], a[2], a[3], a[4]);
            case "cost": return wantsKind(a[0]) != 0 ? wantsKind(a[0])
                : costs(((Integer[]) shelf[a[0]])[0], ((Integer[]) shelf[a[0]])[1]);
            case "toss": return toss(a[0]);
            default: throw new IllegalArgumentException(call);
        }
    }

    private int adds(int d, int seat, int weight) {
        if (bad(d) || !seat(seat) || weight < 1 || weight > 9) {
            return -1;
        }
        int refusal = wantsKind(d);
        if (refusal != 0) {
            return refusal;
        }
        Integer[] kind = (Integer[]) shelf[d];
        return doAdd(now, kind[0], kind[1], seat, weight);
    }

    private int silentFrom(int seat, int pace) {
        for (int p = pace; p <= 99; p++) {
            if (together(now, seat, p) <= now.radio) {
                return p;
            }
        }
        return -4;
    }

    private int bestSeat() {
        int best = 3;
        for (int s = 2; s >= 0; s--) {
            best = hear(now, s, now.pace) >= hear(now, best, now.pace) ? s : best;
        }
        return best;
    }

    private int restore() {
        if (image == null) {
            return -3;
        }
        now = image.copy();
        return now.miles;
    }

    private int which(int d, int what) {
        int refusal = either(what) ? wantsPairs(d) : -1;
        if (refusal != 0) {
            return refusal;
        }
        int set = suspects(shelf[d]);
        return what == 0 ? set : Integer.bitCount(set);
    }

    private long ear(int d, int r, int seat, int part) {
        int refusal = r < 0 || r > 9 || !seat(seat) || !either(part) ? -1 : wantsSeats(d);
        if (refusal != 0) {
            return -1000000000L + refusal;
        }
        long[] all = likelihoods(shelf[d], r);
        return reduced(all[seat], all[0] + all[1] + all[2] + all[3], part);
    }

    private int likeliest(int d, int r) {
        int refusal = r < 0 || r > 9 ? -1 : wantsSeats(d);
        if (refusal != 0) {
            return refusal;
        }
        long[] all = likelihoods(shelf[d], r);
        int best = 3;
        for (int s = 2; s >= 0; s--) {
            best = all[s] >= all[best] ? s : best;
        }
        return best;
    }

    private int keep(int d, int what, int k, int figure) {
        if (bad(d) || !either(what) || what == 1 && (k < 0 || k > 7 || figure < 0 || figure > 9)) {
            return -1;
        }
        shelf[d] = what == 0 ? null : new Integer[] {k, figure};
        return 0;
    }

    private int row(int d, int sort, int n) {
        if (bad(d) || sort < 0 || sort > 2 || n > 100) {
            return -1;
        }
        if (n < 0) {
            return -14;
        }
        shelf[d] = sort == 0 ? new byte[n] : sort == 1 ? new short[n] : new int[n];
        return 0;
    }

    private int put(int d, int i, int v) {
        int refusal = wantsRow(d);
        if (refusal != 0) {
            return refusal;
        }
        if (i < 0 || i >= length(shelf[d])) {
            return -13;
        }
        store(shelf[d], i, v);
        return 0;
    }

    private long element(int d, int i) {
        if (bad(d)) {
            return Call.THROWS_ARGUMENT;
        }
        if (!isRow(shelf[d]) || i < 0 || i >= length(shelf[d])) {
            return Call.THROWS_STATE;
        }
        return at(shelf[d], i);
    }

    private int toss(int d) {
        int refusal = wantsKind(d);
        if (refusal != 0) {
            return refusal;
        }
        int kind = ((Integer[]) shelf[d])[0];
        int figure = ((Integer[]) shelf[d])[1];
        if (kind == 6 || figure == 0) {
            return -15;
        }
        return kind == 5 ? 200 + costs(kind, figure) : kind == 2 ? 100 + figure : figure;
    }
}
