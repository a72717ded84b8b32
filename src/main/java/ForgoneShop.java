/** A shop that pays for what one has managed not to do, and the cellar in which that goes on. */
public final class ForgoneShop {
    public static final int BAD = -1, NO = -2, FULL = -3, NONE = -4;

    private static final String FIRST_TEXT =
        "a5;a0;a12;a30;u0,0,6,2;u0,1,9,7;u1,3,14,0;u1,2,8,3;u2,0,3,1;u2,1,12,15;u3,0,10,4;u3,2,5,5;x3;x2;x5;x1;s80,5;";

    private static final int MOST_LETTERS = 200, MOST_PERSONS = 5, MOST_THINGS = 8, MOST_RATES = 12;
    private static final int MOST_LOOKS = 6, MOST_KEPT = 2, KINDS_OF_THINGS = 4, MOST_NUMBERS = 4;
    private static final int GROWING = 1, FADING = 2, SHAM = 3;
    private static final int WITH_PERSON = 0, IN_CELLAR = 1, IS_GONE = 2;
    private static final int MOST_NEAR = 99, MOST_SUM = 999;

    private final Letters text = new Letters();
    private final Reader reader = new Reader();
    private Plan plan = new Plan();
    private Plan spare = new Plan();
    private final Stand now = new Stand();
    private final Stand trial = new Stand();
    private final Memory done = new Memory();
    private final Memory kept = new Memory();
    private final Looks looks = new Looks();
    private final Choice choice = new Choice();
    private final Exchange exchange = new Exchange();

    public ForgoneShop() {
        for (int i = 0; i < FIRST_TEXT.length(); i++) {
            text.add(FIRST_TEXT.charAt(i));
        }
        layText();
        text.size = 0;
    }

    // ---- shops

    public int write(int letter) {
        if (!within(letter, 32, 126)) {
            return BAD;
        }
        return text.add((char) letter) ? text.size : FULL;
    }

    public int wipe() {
        int was = text.size;
        text.size = 0;
        return was;
    }

    public int fault() {
        return reader.readInto(spare, text);
    }

    public int lay() {
        return layText() ? plan.persons : NO;
    }

    public int person(int p, int what) {
        if (!isPerson(p) || !within(what, 0, 2)) {
            return BAD;
        }
        switch (what) {
            case 0:
                return at(now.money, p);
            case 1:
                return at(now.rue, p);
            default:
                return now.thingsWith(plan, p);
        }
    }

    public int thing(int t, int what) {
        if (!isThing(t) || !within(what, 0, 5)) {
            return BAD;
        }
        switch (what) {
            case 0:
                return at(plan.owner, t);
            case 1:
                return at(plan.kind, t);
            case 2:
                return at(now.near, t);
            case 3:
                return at(plan.rued, t);
            case 4:
                return at(now.place, t);
            default:
                return now.price(plan, t);
        }
    }

    public int pays(int n) {
        return within(n, 0, 99) ? plan.rate(now.day + n) : BAD;
    }

    // ---- acts

    public int sell(int t) {
        if (!isThing(t)) {
            return BAD;
        }
        if (!now.canSell(plan, t)) {
            return NO;
        }
        int price = now.price(plan, t);
        done.push(now);
        now.moveToCellar(plan, t);
        return price;
    }

    public int buyBack(int t) {
        if (!isThing(t)) {
            return BAD;
        }
        if (!now.canBuyBack(plan, t)) {
            return NO;
        }
        int price = now.price(plan, t);
        done.push(now);
        now.moveToPerson(plan, t);
        return price;
    }

    public int pass(int n) {
        if (!within(n, 1, 24)) {
            return BAD;
        }
        done.push(now);
        for (int i = 0; i < n; i++) {
            now.passDay(plan);
        }
        return now.day;
    }

    public int undo() {
        return done.popInto(now) ? done.held : NO;
    }

    // ---- what comes, what is best

    public int behind(int n, int t) {
        if (!within(n, 0, 40) || !isThing(t)) {
            return BAD;
        }
        if (at(now.place, t) != IN_CELLAR) {
            return at(now.near, t);
        }
        return nearInCellar(t, at(plan.kind, t), n);
    }

    public int heard(int h) {
        if (!within(h, 1, MOST_SUM)) {
            return BAD;
        }
        trial.copyFrom(now);
        for (int days = 0; days <= 60; days++) {
            if (trial.nearOfCellar(plan) >= h) {
                return days;
            }
            trial.passDay(plan);
        }
        return NONE;
    }

    public int sum(int p, int m, int what) {
        if (!isPerson(p) || !within(m, 0, MOST_SUM) || !within(what, 0, 1)) {
            return BAD;
        }
        int allowed = 0;
        for (int t = 0; t < plan.things; t++) {
            if (at(plan.owner, t) == p && now.isOffered(plan, t)) {
                allowed |= 1 << t;
            }
            // what is worth most is then what is rued least
            choice.offer(t, now.price(plan, t), -at(plan.rued, t));
        }
        if (!choice.find(plan.things, allowed, m, now.shopMoney)) {
            return NONE;
        }
        return what == 0 ? choice.set : -choice.worth;
    }

    public int take(int n, int what) {
        if (!within(n, 0, 20) || !within(what, 0, 1)) {
            return BAD;
        }
        int allowed = 0;
        int there = 0;
        for (int t = 0; t < plan.things; t++) {
            int comes = nearInCellar(t, at(plan.kind, t), n);
            if (at(now.place, t) == IN_CELLAR) {
                there += comes;
            }
            if (now.isOffered(plan, t)) {
                allowed |= 1 << t;
            }
            choice.offer(t, now.price(plan, t), comes);
        }
        // none of them is always one of the sets
        choice.find(plan.things, allowed, 0, now.shopMoney);
        return what == 0 ? choice.set : there + choice.worth;
    }

    public int when(int t, int what) {
        if (!isThing(t) || !within(what, 0, 1)) {
            return BAD;
        }
        if (at(now.place, t) != WITH_PERSON) {
            return NO;
        }
        int best = 0;
        for (int days = 1; days <= 20; days++) {
            if (priceBehind(t, days) > priceBehind(t, best)) {
                best = days;
            }
        }
        return what == 0 ? best : priceBehind(t, best);
    }

    public int pair(int v) {
        if (!within(v, 2, 2 * MOST_NEAR)) {
            return BAD;
        }
        for (int low = 0; low < plan.things; low++) {
            for (int high = low + 1; high < plan.things; high++) {
                boolean bothThere = at(now.place, low) != IS_GONE && at(now.place, high) != IS_GONE;
                if (bothThere && at(now.near, low) + at(now.near, high) == v) {
                    return 10 * low + high;
                }
            }
        }
        return NONE;
    }

    public int swap(int t) {
        if (t != -1 && !isThing(t)) {
            return BAD;
        }
        exchange.arrange(plan, now);
        return t == -1 ? exchange.least : at(exchange.holder, t);
    }

    // ---- what was seen, looked at

    public int see(int t, int n, int v) {
        if (!isThing(t) || !within(n, 0, 20) || !within(v, 0, MOST_NEAR)) {
            return BAD;
        }
        return looks.add(t, n, v) ? looks.size : FULL;
    }

    public int forget() {
        int were = looks.size;
        looks.size = 0;
        return were;
    }

    public int kinds(int t) {
        if (!isThing(t)) {
            return BAD;
        }
        int bits = 0;
        for (int kind = 0; kind < KINDS_OF_THINGS; kind++) {
            if (fitsLooks(t, kind)) {
                bits |= 1 << kind;
            }
        }
        return bits;
    }

    public int sure(int s, int e, int a, int b, int part) {
        if (!within(s, 1, 9) || !within(e, 0, 9) || !within(a, 0, 4) || !within(b, 0, 4)
                || !within(part, 0, 1)) {
            return BAD;
        }
        long sham = s * power(10 - e, a) * power(e, b);
        long real = (10 - s) * power(e, a) * power(10 - e, b);
        return sham + real == 0 ? NONE : lowestPart(sham, sham + real, part);
    }

    public int fine(int t, int l) {
        if (!isThing(t) || !within(l, 1, 4)) {
            return BAD;
        }
        long missed = power(3, l);
        long told = power(10, l) - missed;
        if (told <= 0) {
            return NONE;
        }
        long least = (now.price(plan, t) * missed + told - 1) / told;
        return least <= MOST_SUM ? (int) least : NONE;
    }

    // ---- whims, years

    public int whims(int t, int n, int m, int x, int part) {
        if (!isThing(t) || !within(n, 0, 8) || !within(m, 0, MOST_SUM) || !within(x, 0, 10)
                || !within(part, 0, 1)) {
            return BAD;
        }
        if (at(now.place, t) != WITH_PERSON) {
            return NO;
        }
        long never = 1;
        for (int days = 0; days < n; days++) {
            int missedByWhim = m > 0 ? x : 0;
            int missedAsTold = m > priceBehind(t, days) ? 10 - x : 0;
            never *= missedByWhim + missedAsTold;
        }
        long all = power(10, n);
        return lowestPart(all - never, all, part);
    }

    public int year(int z, int n, int what) {
        if (!within(z, 0, 9999) || !within(n, 1, 60) || !within(what, 0, 1)) {
            return BAD;
        }
        trial.copyFrom(now);
        for (int k = 0; k < n; k++) {
            actByDraw(z, k);
            trial.passDay(plan);
        }
        return what == 0 ? trial.nearOfCellar(plan) : trial.rueOfAll(plan);
    }

    public int keep() {
        if (kept.held >= MOST_KEPT) {
            return FULL;
        }
        kept.push(now);
        return kept.held;
    }

    public int back() {
        if (!kept.popInto(now)) {
            return NO;
        }
        done.held = 0;
        return kept.held;
    }

    public int count(int what) {
        switch (what) {
            case 0:
                return plan.persons;
            case 1:
                return plan.things;
            case 2:
                return now.shopMoney;
            case 3:
                return plan.leastNear;
            case 4:
                return now.day;
            case 5:
                return now.howMany(plan, IN_CELLAR);
            case 6:
                return now.howMany(plan, IS_GONE);
            case 7:
                return now.nearOfCellar(plan);
            case 8:
                return looks.size;
            case 9:
                return done.held;
            case 10:
                return kept.held;
            case 11:
                return text.size;
            default:
                return BAD;
        }
    }

    // ---- what the calls share

    /** Lays the text, or leaves all as it is if the text has a fault or no person. */
    private boolean layText() {
        if (reader.readInto(spare, text) != NONE || spare.persons == 0) {
            return false;
        }
        Plan old = plan;
        plan = spare;
        spare = old;
        now.begin(plan);
        looks.size = 0;
        done.held = 0;
        kept.held = 0;
        return true;
    }

    private boolean isPerson(int p) {
        return p >= 0 && p < plan.persons;
    }

    private boolean isThing(int t) {
        return t >= 0 && t < plan.things;
    }

    private int priceBehind(int t, int days) {
        return at(now.near, t) * plan.rate(now.day + days);
    }

    /** How near a thing would be behind some days if it were in the cellar now and of that kind. */
    private int nearInCellar(int t, int kind, int days) {
        int near = at(now.near, t);
        for (int i = 0; i < days; i++) {
            near = nearNextDay(kind, near, now.day + i);
        }
        return near;
    }

    private boolean fitsLooks(int t, int kind) {
        for (int i = 0; i < looks.size; i++) {
            if (at(looks.thing, i) == t && nearInCellar(t, kind, at(looks.days, i)) != at(looks.near, i)) {
                return false;
            }
        }
        return true;
    }

    private void actByDraw(int z, int k) {
        if (plan.things <= 0) {
            return;
        }
        long x = 7919L * z + 6151L * k + 1;
        int draw = (int) (x * x % 65521);
        int t = draw / 8 % plan.things;
        int way = draw % 8;
        if (way <= 3 && trial.canSell(plan, t)) {
            trial.moveToCellar(plan, t);
        } else if ((way == 4 || way == 5) && trial.canBuyBack(plan, t)) {
            trial.moveToPerson(plan, t);
        }
    }

    /** How near a thing in the cellar is when that day has gone by; 0 is gone, and stays so. */
    private static int nearNextDay(int kind, int near, int day) {
        if (near <= 0) {
            return 0;
        }
        switch (kind) {
            case GROWING:
                return Math.min(near + 2, MOST_NEAR);
            case FADING:
                return day % 2 == 0 ? near : near - 1;
            case SHAM:
                return Math.max(near - 2, 0);
            default:
                return Math.min(near + 1, MOST_NEAR);
        }
    }

    private static boolean within(int number, int low, int high) {
        return number >= low && number <= high;
    }

    /** No index is used that was not looked at here: 0 stands for what is not in the row. */
    private static int at(int[] row, int i) {
        return i >= 0 && i < row.length ? row[i] : 0;
    }

    private static void put(int[] row, int i, int value) {
        if (i >= 0 && i < row.length) {
            row[i] = value;
        }
    }

    private static void copyRow(int[] from, int[] to) {
        for (int i = 0; i < to.length; i++) {
            put(to, i, at(from, i));
        }
    }

    private static long power(int base, int exponent) {
        long result = 1;
        for (int i = 0; i < exponent; i++) {
            result *= base;
        }
        return result;
    }

    private static long commonDivisor(long one, long other) {
        long high = one;
        long low = other;
        // no two longs need more than some ninety steps
        for (int i = 0; i < 100 && low != 0; i++) {
            long rest = high % low;
            high = low;
            low = rest;
        }
        return high;
    }

    /** What is above (part 0) or below (part 1) in lowest terms. */
    private static int lowestPart(long above, long below, int part) {
        long divisor = commonDivisor(above, below);
        if (divisor == 0) {
            return 0;
        }
        return (int) ((part == 0 ? above : below) / divisor);
    }

    /** The text as it has been written so far. */
    private static final class Letters {
        private final char[] signs = new char[MOST_LETTERS];
        private int size;

        private boolean add(char sign) {
            if (size < 0 || size >= signs.length) {
                return false;
            }
            signs[size] = sign;
            size++;
            return true;
        }

        /** The letter at a place; behind the last one a sign that no item has. */
        private char letter(int place) {
            return place >= 0 && place < size && place < signs.length ? signs[place] : 0;
        }
    }

    /** What a text tells: it stays as it is while things are sold and days go by. */
    private static final class Plan {
        private int persons;
        private final int[] money = new int[MOST_PERSONS];
        private int things;
        private final int[] owner = new int[MOST_THINGS];
        private final int[] kind = new int[MOST_THINGS];
        private final int[] near = new int[MOST_THINGS];
        private final int[] rued = new int[MOST_THINGS];
        private int rates;
        private final int[] rateRow = new int[MOST_RATES];
        private int shopMoney;
        private int leastNear;

        private void clear() {
            persons = 0;
            things = 0;
            rates = 0;
            shopMoney = 60;
            leastNear = 4;
        }

        /** What the shop pays for each near on a day. */
        private int rate(int day) {
            return rates > 0 ? at(rateRow, day % rates) : 3;
        }

        private boolean addPerson(int itsMoney) {
            if (persons >= MOST_PERSONS) {
                return false;
            }
            put(money, persons, itsMoney);
            persons++;
            return true;
        }

        private boolean addThing(int p, int itsKind, int itsNear, int itsRue) {
            boolean so = things < MOST_THINGS && within(p, 0, persons - 1)
                && within(itsKind, 0, KINDS_OF_THINGS - 1) && within(itsNear, 1, 20) && within(itsRue, 0, 20);
            if (!so) {
                return false;
            }
            put(owner, things, p);
            put(kind, things, itsKind);
            put(near, things, itsNear);
            put(rued, things, itsRue);
            things++;
            return true;
        }

        private boolean addRate(int rate) {
            if (rates >= MOST_RATES || rate > 9) {
                return false;
            }
            put(rateRow, rates, rate);
            rates++;
            return true;
        }

        private boolean setShop(int itsMoney, int itsLeastNear) {
            if (itsLeastNear > 20) {
                return false;
            }
            shopMoney = itsMoney;
            leastNear = itsLeastNear;
            return true;
        }
    }

    /** Reads the items of a text. */
    private static final class Reader {
        private final int[] numbers = new int[MOST_NUMBERS];
        private int howMany;

        /** The place of the first item that is not so, or NONE. */
        private int readInto(Plan plan, Letters text) {
            plan.clear();
            int place = 0;
            for (int items = 0; items < MOST_LETTERS && place < text.size; items++) {
                int next = readNumbers(text, place + 1);
                if (next == BAD || !tell(plan, text.letter(place))) {
                    return place;
                }
                place = next;
            }
            return NONE;
        }

        /** Reads numbers up to a ';': the place behind that, or BAD. */
        private int readNumbers(Letters text, int from) {
            int place = from;
            for (int i = 0; i < MOST_NUMBERS; i++) {
                if (!isFigure(text, place)) {
                    return BAD;
                }
                int number = text.letter(place) - '0';
                place++;
                if (isFigure(text, place)) {
                    number = 10 * number + text.letter(place) - '0';
                    place++;
                }
                put(numbers, i, number);
                howMany = i + 1;
                char sign = text.letter(place);
                place++;
                if (sign == ';') {
                    return place;
                }
                if (sign != ',') {
                    return BAD;
                }
            }
            return BAD;
        }

        private boolean isFigure(Letters text, int place) {
            return within(text.letter(place), '0', '9');
        }

        private boolean tell(Plan plan, char letter) {
            int first = at(numbers, 0);
            int second = at(numbers, 1);
            switch (letter) {
                case 'a':
                    return howMany == 1 && plan.addPerson(first);
                case 'u':
                    return howMany == 4 && plan.addThing(first, second, at(numbers, 2), at(numbers, 3));
                case 'x':
                    return howMany == 1 && plan.addRate(first);
                case 's':
                    return howMany == 2 && plan.setShop(first, second);
                default:
                    return false;
            }
        }
    }

    /** How all stands on a day: all that sales and days change. */
    private static final class Stand {
        private int day;
        private int shopMoney;
        private final int[] money = new int[MOST_PERSONS];
        private final int[] rue = new int[MOST_PERSONS];
        private final int[] near = new int[MOST_THINGS];
        private final int[] place = new int[MOST_THINGS];

        private void begin(Plan plan) {
            day = 0;
            shopMoney = plan.shopMoney;
            copyRow(plan.money, money);
            copyRow(plan.near, near);
            for (int p = 0; p < MOST_PERSONS; p++) {
                put(rue, p, 0);
            }
            for (int t = 0; t < MOST_THINGS; t++) {
                put(place, t, WITH_PERSON);
            }
        }

        private void copyFrom(Stand other) {
            day = other.day;
            shopMoney = other.shopMoney;
            copyRow(other.money, money);
            copyRow(other.rue, rue);
            copyRow(other.near, near);
            copyRow(other.place, place);
        }

        private int price(Plan plan, int t) {
            return at(near, t) * plan.rate(day);
        }

        /** If a thing is where it can be sold from, and near enough for the shop. */
        private boolean isOffered(Plan plan, int t) {
            return at(place, t) == WITH_PERSON && at(near, t) >= plan.leastNear;
        }

        private boolean canSell(Plan plan, int t) {
            return isOffered(plan, t) && price(plan, t) <= shopMoney;
        }

        private boolean canBuyBack(Plan plan, int t) {
            return at(place, t) == IN_CELLAR && price(plan, t) <= at(money, at(plan.owner, t));
        }

        private void moveToCellar(Plan plan, int t) {
            payPerson(at(plan.owner, t), price(plan, t));
            put(place, t, IN_CELLAR);
        }

        private void moveToPerson(Plan plan, int t) {
            payPerson(at(plan.owner, t), -price(plan, t));
            put(place, t, WITH_PERSON);
        }

        private void payPerson(int p, int price) {
            shopMoney -= price;
            put(money, p, at(money, p) + price);
        }

        private void passDay(Plan plan) {
            for (int t = 0; t < plan.things; t++) {
                if (at(place, t) == IN_CELLAR) {
                    goOn(plan, t);
                }
                if (at(place, t) != WITH_PERSON) {
                    int p = at(plan.owner, t);
                    put(rue, p, at(rue, p) + at(plan.rued, t));
                }
            }
            day++;
        }

        private void goOn(Plan plan, int t) {
            int comes = nearNextDay(at(plan.kind, t), at(near, t), day);
            put(near, t, comes);
            if (comes == 0) {
                put(place, t, IS_GONE);
            }
        }

        private int thingsWith(Plan plan, int p) {
            int bits = 0;
            for (int t = 0; t < plan.things; t++) {
                if (at(plan.owner, t) == p && at(place, t) == WITH_PERSON) {
                    bits |= 1 << t;
                }
            }
            return bits;
        }

        private int howMany(Plan plan, int where) {
            int number = 0;
            for (int t = 0; t < plan.things; t++) {
                if (at(place, t) == where) {
                    number++;
                }
            }
            return number;
        }

        private int nearOfCellar(Plan plan) {
            int all = 0;
            for (int t = 0; t < plan.things; t++) {
                if (at(place, t) == IN_CELLAR) {
                    all += at(near, t);
                }
            }
            return all;
        }

        private int rueOfAll(Plan plan) {
            int all = 0;
            for (int p = 0; p < plan.persons; p++) {
                all += at(rue, p);
            }
            return all;
        }
    }

    /** The latest of how all stood; the oldest gives way to a new one. */
    private static final class Memory {
        private static final int ROOM = 8;
        private final Stand[] ring = new Stand[ROOM];
        private int next;
        private int held;

        private Memory() {
            for (int i = 0; i < ring.length; i++) {
                ring[i] = new Stand();
            }
        }

        private void push(Stand stand) {
            Stand slot = slotAt(next);
            if (slot == null) {
                return;
            }
            slot.copyFrom(stand);
            next = (next + 1) % ROOM;
            held = Math.min(held + 1, ROOM);
        }

        private boolean popInto(Stand stand) {
            int last = (next + ROOM - 1) % ROOM;
            Stand slot = slotAt(last);
            if (held <= 0 || slot == null) {
                return false;
            }
            stand.copyFrom(slot);
            next = last;
            held--;
            return true;
        }

        private Stand slotAt(int i) {
            return i >= 0 && i < ring.length ? ring[i] : null;
        }
    }

    /** What is seen: how near a thing would be behind some days in the cellar. */
    private static final class Looks {
        private final int[] thing = new int[MOST_LOOKS];
        private final int[] days = new int[MOST_LOOKS];
        private final int[] near = new int[MOST_LOOKS];
        private int size;

        private boolean add(int t, int n, int v) {
            if (size >= MOST_LOOKS) {
                return false;
            }
            put(thing, size, t);
            put(days, size, n);
            put(near, size, v);
            size++;
            return true;
        }
    }

    /** Finds the best of the sets of some things. */
    private static final class Choice {
        private final int[] priceOfThing = new int[MOST_THINGS];
        private final int[] worthOfThing = new int[MOST_THINGS];
        private final int[] priceOfSet = new int[1 << MOST_THINGS];
        private final int[] worthOfSet = new int[1 << MOST_THINGS];
        private int set;
        private int worth;

        private void offer(int t, int itsPrice, int itsWorth) {
            put(priceOfThing, t, itsPrice);
            put(worthOfThing, t, itsWorth);
        }

        /** Of sets of allowed things with a price from least to most that worth most, the lowest of several. */
        private boolean find(int things, int allowed, int least, int most) {
            addUp(things);
            set = 0;
            worth = 0;
            boolean found = false;
            int end = 1 << Math.min(things, MOST_THINGS);
            for (int bits = 0; bits < end; bits++) {
                if ((bits & ~allowed) == 0 && within(at(priceOfSet, bits), least, most)
                        && (!found || at(worthOfSet, bits) > worth)) {
                    found = true;
                    set = bits;
                    worth = at(worthOfSet, bits);
                }
            }
            return found;
        }

        /** Each set is a lower one, known by then, and its highest thing. */
        private void addUp(int things) {
            put(priceOfSet, 0, 0);
            put(worthOfSet, 0, 0);
            for (int t = 0; t < things && t < MOST_THINGS; t++) {
                int bit = 1 << t;
                for (int lower = 0; lower < bit; lower++) {
                    put(priceOfSet, bit + lower, at(priceOfSet, lower) + at(priceOfThing, t));
                    put(worthOfSet, bit + lower, at(worthOfSet, lower) + at(worthOfThing, t));
                }
            }
        }
    }

    /**
     * Finds with whom things are rued least. A code tells how many things each person may still
     * get, as figures of a number; it alone decides which things are still to be given.
     */
    private static final class Exchange {
        // no five numbers from 1 on that are 13 in sum give more when multiplied
        private static final int MOST_CODES = 108;
        private final int[] moved = new int[MOST_THINGS];
        private final int[] quota = new int[MOST_PERSONS];
        private final int[] weight = new int[MOST_PERSONS];
        private final int[] leastOfCode = new int[MOST_CODES];
        private final int[] holder = new int[MOST_THINGS];
        private int size;
        private int codes;
        private int least;

        private void arrange(Plan plan, Stand stand) {
            collect(plan, stand);
            put(leastOfCode, 0, 0);
            for (int code = 1; code < codes && code < MOST_CODES; code++) {
                put(leastOfCode, code, leastFrom(plan, code));
            }
            least = at(leastOfCode, codes - 1);
            giveOut(plan);
        }

        private void collect(Plan plan, Stand stand) {
            size = 0;
            for (int p = 0; p < MOST_PERSONS; p++) {
                put(quota, p, 0);
            }
            for (int t = 0; t < plan.things; t++) {
                put(holder, t, NONE);
                if (at(stand.place, t) == WITH_PERSON) {
                    put(moved, size, t);
                    size++;
                    int p = at(plan.owner, t);
                    put(quota, p, at(quota, p) + 1);
                }
            }
            codes = 1;
            for (int p = 0; p < MOST_PERSONS; p++) {
                put(weight, p, codes);
                codes *= at(quota, p) + 1;
            }
        }

        /** How many things a person may still get by a code. */
        private int leftFor(int p, int code) {
            int unit = at(weight, p);
            int figures = at(quota, p) + 1;
            return unit > 0 && figures > 0 ? code / unit % figures : 0;
        }

        /** The next thing to give out by a code. */
        private int nextThing(int code) {
            int left = 0;
            for (int p = 0; p < MOST_PERSONS; p++) {
                left += leftFor(p, code);
            }
            return at(moved, size - left);
        }

        private int rueBy(Plan plan, int t, int p) {
            int rued = at(plan.rued, t);
            return at(plan.owner, t) == p ? rued : rued / 2;
        }

        private int rueFrom(Plan plan, int t, int p, int code) {
            return rueBy(plan, t, p) + at(leastOfCode, code - at(weight, p));
        }

        private int leastFrom(Plan plan, int code) {
            int t = nextThing(code);
            int best = NONE;
            for (int p = 0; p < MOST_PERSONS; p++) {
                if (leftFor(p, code) > 0) {
                    int rue = rueFrom(plan, t, p, code);
                    best = best == NONE ? rue : Math.min(best, rue);
                }
            }
            return best;
        }

        private void giveOut(Plan plan) {
            int code = codes - 1;
            for (int i = 0; i < size; i++) {
                int t = at(moved, i);
                int p = firstBest(plan, t, code);
                put(holder, t, p);
                code -= at(weight, p);
            }
        }

        private int firstBest(Plan plan, int t, int code) {
            for (int p = 0; p < MOST_PERSONS; p++) {
                if (leftFor(p, code) > 0 && rueFrom(plan, t, p, code) == at(leastOfCode, code)) {
                    return p;
                }
            }
            return 0;
        }
    }
}
