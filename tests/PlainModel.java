import java.math.BigInteger;
import java.util.ArrayList;
import java.util.List;
import java.util.regex.Matcher;
import java.util.regex.Pattern;

/**
 * The document once more, in another way: texts by patterns, states as copies, all sets, ways and
 * chances by going through every one. Slow, and written without a look at the class under test.
 */
final class PlainModel {
    static final int BAD = -1, NO = -2, FULL = -3, NONE = -4;
    private static final Pattern ITEM = Pattern.compile("([a-z])(\\d\\d?(?:,\\d\\d?)*);");
    private static final String FIRST =
        "a5;a0;a12;a30;u0,0,6,2;u0,1,9,7;u1,3,14,0;u1,2,8,3;u2,0,3,1;u2,1,12,15;u3,0,10,4;u3,2,5,5;"
        + "x3;x2;x5;x1;s80,5;";

    private static final class Thing {
        int owner, kind, near, r;
        String where = "home";

        Thing copy() {
            Thing c = new Thing();
            c.owner = owner;
            c.kind = kind;
            c.near = near;
            c.r = r;
            c.where = where;
            return c;
        }
    }

    private static final class State {
        List<Integer> money = new ArrayList<>();
        List<Integer> rue = new ArrayList<>();
        List<Thing> things = new ArrayList<>();
        List<Integer> rates = new ArrayList<>();
        int shop = 60, least = 4, day = 0;

        State copy() {
            State c = new State();
            c.money.addAll(money);
            c.rue.addAll(rue);
            for (Thing t : things) {
                c.things.add(t.copy());
            }
            c.rates.addAll(rates);
            c.shop = shop;
            c.least = least;
            c.day = day;
            return c;
        }

        int rate(int onDay) {
            return rates.isEmpty() ? 3 : rates.get(onDay % rates.size());
        }

        int price(int t) {
            return things.get(t).near * rate(day);
        }

        boolean sell(int t) {
            Thing x = things.get(t);
            if (!x.where.equals("home") || x.near < least || price(t) > shop) {
                return false;
            }
            shop -= price(t);
            money.set(x.owner, money.get(x.owner) + price(t));
            x.where = "cellar";
            return true;
        }

        boolean buyBack(int t) {
            Thing x = things.get(t);
            if (!x.where.equals("cellar") || price(t) > money.get(x.owner)) {
                return false;
            }
            shop += price(t);
            money.set(x.owner, money.get(x.owner) - price(t));
            x.where = "home";
            return true;
        }

        void pass() {
            for (Thing x : things) {
                if (!x.where.equals("home")) {
                    rue.set(x.owner, rue.get(x.owner) + x.r);
                }
                if (x.where.equals("cellar")) {
                    x.near = step(x.kind, x.near, day);
                    if (x.near == 0) {
                        x.where = "gone";
                    }
                }
            }
            day++;
        }

        int cellar() {
            int all = 0;
            for (Thing x : things) {
                all += x.where.equals("cellar") ? x.near : 0;
            }
            return all;
        }
    }

    private static int step(int kind, int near, int day) {
        int[] more = {1, 2, day % 2 == 1 ? -1 : 0, -2};
        int comes = near + more[kind];
        return comes <= 0 || near == 0 ? 0 : comes > 99 ? 99 : comes;
    }

    private final StringBuilder text = new StringBuilder();
    private State now;
    private final List<State> past = new ArrayList<>();
    private final List<State> keeps = new ArrayList<>();
    private final List<int[]> seen = new ArrayList<>();

    PlainModel() {
        now = read(FIRST).state;
    }

    private static final class Reading {
        State state = new State();
        int fault = NONE;
    }

    private static Reading read(String s) {
        Reading reading = new Reading();
        Matcher m = ITEM.matcher(s);
        int from = 0;
        while (from < s.length()) {
            m.region(from, s.length());
            if (!m.lookingAt() || !add(reading.state, m.group(1), m.group(2).split(","))) {
                reading.fault = from;
                return reading;
            }
            from = m.end();
        }
        return reading;
    }

    private static boolean add(State state, String letter, String[] parts) {
        List<Integer> n = new ArrayList<>();
        for (String part : parts) {
            n.add(Integer.parseInt(part));
        }
        if (letter.equals("a") && n.size() == 1 && state.money.size() < 5) {
            state.money.add(n.get(0));
            state.rue.add(0);
            return true;
        }
        if (letter.equals("u") && n.size() == 4 && state.things.size() < 8) {
            if (n.get(0) >= state.money.size() || n.get(1) > 3 || n.get(2) < 1 || n.get(2) > 20 || n.get(3) > 20) {
                return false;
            }
            Thing t = new Thing();
            t.owner = n.get(0);
            t.kind = n.get(1);
            t.near = n.get(2);
            t.r = n.get(3);
            state.things.add(t);
            return true;
        }
        if (letter.equals("x") && n.size() == 1 && state.rates.size() < 12 && n.get(0) <= 9) {
            state.rates.add(n.get(0));
            return true;
        }
        if (letter.equals("s") && n.size() == 2 && n.get(1) <= 20) {
            state.shop = n.get(0);
            state.least = n.get(1);
            return true;
        }
        return false;
    }

    private static boolean out(int v, int low, int high) {
        return v < low || v > high;
    }

    private boolean noThing(int t) {
        return out(t, 0, now.things.size() - 1);
    }

    private boolean noPerson(int p) {
        return out(p, 0, now.money.size() - 1);
    }

    private boolean home(int t) {
        return now.things.get(t).where.equals("home");
    }

    int write(int letter) {
        if (out(letter, 32, 126)) {
            return BAD;
        }
        if (text.length() == 200) {
            return FULL;
        }
        text.append((char) letter);
        return text.length();
    }

    int wipe() {
        int was = text.length();
        text.setLength(0);
        return was;
    }

    int fault() {
        return read(text.toString()).fault;
    }

    int lay() {
        Reading reading = read(text.toString());
        if (reading.fault != NONE || reading.state.money.isEmpty()) {
            return NO;
        }
        now = reading.state;
        past.clear();
        keeps.clear();
        seen.clear();
        return now.money.size();
    }

    int person(int p, int what) {
        if (noPerson(p) || out(what, 0, 2)) {
            return BAD;
        }
        int bits = 0;
        for (int t = 0; t < now.things.size(); t++) {
            bits += home(t) && now.things.get(t).owner == p ? 1 << t : 0;
        }
        return new int[] {now.money.get(p), now.rue.get(p), bits}[what];
    }

    int thing(int t, int what) {
        if (noThing(t) || out(what, 0, 5)) {
            return BAD;
        }
        Thing x = now.things.get(t);
        int where = x.where.equals("home") ? 0 : x.where.equals("cellar") ? 1 : 2;
        return new int[] {x.owner, x.kind, x.near, x.r, where, now.price(t)}[what];
    }

    int pays(int n) {
        return out(n, 0, 99) ? BAD : now.rate(now.day + n);
    }

    private void remember(State was) {
        past.add(was);
        if (past.size() > 8) {
            past.remove(0);
        }
    }

    int sell(int t) {
        if (noThing(t)) {
            return BAD;
        }
        State was = now.copy();
        if (!now.sell(t)) {
            return NO;
        }
        remember(was);
        return was.price(t);
    }

    int buyBack(int t) {
        if (noThing(t)) {
            return BAD;
        }
        State was = now.copy();
        if (!now.buyBack(t)) {
            return NO;
        }
        remember(was);
        return was.price(t);
    }

    int pass(int n) {
        if (out(n, 1, 24)) {
            return BAD;
        }
        remember(now.copy());
        for (int i = 0; i < n; i++) {
            now.pass();
        }
        return now.day;
    }

    int undo() {
        if (past.isEmpty()) {
            return NO;
        }
        now = past.remove(past.size() - 1);
        return past.size();
    }

    int behind(int n, int t) {
        if (out(n, 0, 40) || noThing(t)) {
            return BAD;
        }
        State then = now.copy();
        for (int i = 0; i < n; i++) {
            then.pass();
        }
        return then.things.get(t).near;
    }

    int heard(int h) {
        if (out(h, 1, 999)) {
            return BAD;
        }
        State then = now.copy();
        for (int i = 0; i <= 60; i++) {
            if (then.cellar() >= h) {
                return i;
            }
            then.pass();
        }
        return NONE;
    }

    /** The state once all of a set are sold, or null if they can not all be. */
    private State sold(int set) {
        State then = now.copy();
        for (int t = 0; t < now.things.size(); t++) {
            if ((set >> t & 1) == 1 && !then.sell(t)) {
                return null;
            }
        }
        return then;
    }

    int sum(int p, int m, int what) {
        if (noPerson(p) || out(m, 0, 999) || out(what, 0, 1)) {
            return BAD;
        }
        int bestSet = -1;
        int bestR = Integer.MAX_VALUE;
        for (int set = 0; set < 1 << now.things.size(); set++) {
            State then = sold(set);
            if (then == null || now.shop - then.shop < m) {
                continue;
            }
            int r = 0;
            boolean his = true;
            for (int t = 0; t < now.things.size(); t++) {
                if ((set >> t & 1) == 1) {
                    r += now.things.get(t).r;
                    his &= now.things.get(t).owner == p;
                }
            }
            if (his && r < bestR) {
                bestR = r;
                bestSet = set;
            }
        }
        return bestSet < 0 ? NONE : what == 0 ? bestSet : bestR;
    }

    int take(int n, int what) {
        if (out(n, 0, 20) || out(what, 0, 1)) {
            return BAD;
        }
        int bestSet = -1;
        int best = -1;
        for (int set = 0; set < 1 << now.things.size(); set++) {
            State then = sold(set);
            for (int i = 0; then != null && i < n; i++) {
                then.pass();
            }
            if (then != null && then.cellar() > best) {
                best = then.cellar();
                bestSet = set;
            }
        }
        return what == 0 ? bestSet : best;
    }

    int when(int t, int what) {
        if (noThing(t) || out(what, 0, 1)) {
            return BAD;
        }
        if (!home(t)) {
            return NO;
        }
        int best = -1;
        int days = 0;
        State then = now.copy();
        for (int i = 0; i <= 20; i++) {
            if (then.price(t) > best) {
                best = then.price(t);
                days = i;
            }
            then.pass();
        }
        return what == 0 ? days : best;
    }

    int pair(int v) {
        if (out(v, 2, 198)) {
            return BAD;
        }
        int first = Integer.MAX_VALUE;
        for (int a = 0; a < now.things.size(); a++) {
            for (int b = 0; b < a; b++) {
                Thing x = now.things.get(a);
                Thing y = now.things.get(b);
                if (!x.where.equals("gone") && !y.where.equals("gone") && x.near + y.near == v) {
                    first = Math.min(first, 10 * b + a);
                }
            }
        }
        return first == Integer.MAX_VALUE ? NONE : first;
    }

    private int bestRue;
    private int[] bestWay;

    int swap(int t) {
        if (t != -1 && noThing(t)) {
            return BAD;
        }
        int[] left = new int[5];
        for (int i = 0; i < now.things.size(); i++) {
            if (home(i)) {
                left[now.things.get(i).owner]++;
            }
        }
        bestRue = Integer.MAX_VALUE;
        give(0, left, new int[now.things.size()], 0);
        return t == -1 ? bestRue : bestWay[t];
    }

    /** Every way, the first ones ahead, so that of several the first stays. */
    private void give(int t, int[] left, int[] way, int rue) {
        if (t == way.length) {
            if (rue < bestRue) {
                bestRue = rue;
                bestWay = way.clone();
            }
            return;
        }
        if (!home(t)) {
            way[t] = NONE;
            give(t + 1, left, way, rue);
            return;
        }
        for (int p = 0; p < 5; p++) {
            if (left[p] > 0) {
                left[p]--;
                way[t] = p;
                int r = now.things.get(t).r;
                give(t + 1, left, way, rue + (now.things.get(t).owner == p ? r : r / 2));
                left[p]++;
            }
        }
    }

    int see(int t, int n, int v) {
        if (noThing(t) || out(n, 0, 20) || out(v, 0, 99)) {
            return BAD;
        }
        if (seen.size() == 6) {
            return FULL;
        }
        seen.add(new int[] {t, n, v});
        return seen.size();
    }

    int forget() {
        int were = seen.size();
        seen.clear();
        return were;
    }

    int kinds(int t) {
        if (noThing(t)) {
            return BAD;
        }
        int bits = 15;
        for (int[] look : seen) {
            for (int kind = 0; kind < 4 && look[0] == t; kind++) {
                State then = now.copy();
                Thing x = then.things.get(t);
                x.kind = kind;
                x.where = x.where.equals("gone") ? "gone" : "cellar";
                for (int i = 0; i < look[1]; i++) {
                    then.pass();
                }
                if (x.near != look[2]) {
                    bits &= ~(1 << kind);
                }
            }
        }
        return bits;
    }

    private static int part(BigInteger above, BigInteger below, int part) {
        BigInteger g = above.gcd(below);
        return (part == 0 ? above : below).divide(g).intValueExact();
    }

    int sure(int s, int e, int a, int b, int part) {
        if (out(s, 1, 9) || out(e, 0, 9) || out(a, 0, 4) || out(b, 0, 4) || out(part, 0, 1)) {
            return BAD;
        }
        BigInteger right = BigInteger.valueOf(10 - e);
        BigInteger wrong = BigInteger.valueOf(e);
        BigInteger sham = BigInteger.valueOf(s).multiply(right.pow(a)).multiply(wrong.pow(b));
        BigInteger real = BigInteger.valueOf(10 - s).multiply(wrong.pow(a)).multiply(right.pow(b));
        BigInteger all = sham.add(real);
        return all.signum() == 0 ? NONE : part(sham, all, part);
    }

    int fine(int t, int l) {
        if (noThing(t) || out(l, 1, 4)) {
            return BAD;
        }
        int all = 1;
        int missed = 1;
        for (int i = 0; i < l; i++) {
            all *= 10;
            missed *= 3;
        }
        for (int f = 0; f <= 999; f++) {
            if ((long) now.price(t) * missed <= (long) f * (all - missed)) {
                return f;
            }
        }
        return NONE;
    }

    int whims(int t, int n, int m, int x, int part) {
        if (noThing(t) || out(n, 0, 8) || out(m, 0, 999) || out(x, 0, 10) || out(part, 0, 1)) {
            return BAD;
        }
        if (!home(t)) {
            return NO;
        }
        BigInteger likely = BigInteger.ZERO;
        for (int whim = 0; whim < 1 << n; whim++) {
            BigInteger chance = BigInteger.ONE;
            boolean reached = false;
            for (int d = 0; d < n; d++) {
                boolean zero = (whim >> d & 1) == 1;
                chance = chance.multiply(BigInteger.valueOf(zero ? x : 10 - x));
                int price = zero ? 0 : now.things.get(t).near * now.rate(now.day + d);
                reached |= price >= m;
            }
            likely = reached ? likely.add(chance) : likely;
        }
        return part(likely, BigInteger.TEN.pow(n), part);
    }

    int year(int z, int n, int what) {
        if (out(z, 0, 9999) || out(n, 1, 60) || out(what, 0, 1)) {
            return BAD;
        }
        State then = now.copy();
        for (int k = 0; k < n; k++) {
            BigInteger x = BigInteger.valueOf(7919L * z + 6151L * k + 1);
            int draw = x.multiply(x).mod(BigInteger.valueOf(65521)).intValueExact();
            if (!then.things.isEmpty()) {
                int t = draw / 8 % then.things.size();
                if (draw % 8 < 4) {
                    then.sell(t);
                } else if (draw % 8 < 6) {
                    then.buyBack(t);
                }
            }
            then.pass();
        }
        int rue = 0;
        for (int r : then.rue) {
            rue += r;
        }
        return what == 0 ? then.cellar() : rue;
    }

    int keep() {
        if (keeps.size() == 2) {
            return FULL;
        }
        keeps.add(now.copy());
        return keeps.size();
    }

    int back() {
        if (keeps.isEmpty()) {
            return NO;
        }
        now = keeps.remove(keeps.size() - 1);
        past.clear();
        return keeps.size();
    }

    int count(int what) {
        if (out(what, 0, 11)) {
            return BAD;
        }
        int inCellar = 0;
        int gone = 0;
        for (Thing x : now.things) {
            inCellar += x.where.equals("cellar") ? 1 : 0;
            gone += x.where.equals("gone") ? 1 : 0;
        }
        return new int[] {now.money.size(), now.things.size(), now.shop, now.least, now.day, inCellar, gone,
            now.cellar(), seen.size(), past.size(), keeps.size(), text.length()}[what];
    }
}
