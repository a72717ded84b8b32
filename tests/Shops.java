/** Shops as the tests want them, and all that can be seen of one. */
final class Shops {
    static final int BAD = -1, NO = -2, FULL = -3, NONE = -4;
    static final int LOW = Integer.MIN_VALUE, HIGH = Integer.MAX_VALUE;
    static final String FIRST =
        "a5;a0;a12;a30;u0,0,6,2;u0,1,9,7;u1,3,14,0;u1,2,8,3;u2,0,3,1;u2,1,12,15;u3,0,10,4;u3,2,5,5;x3;x2;x5;x1;s80,5;";

    private Shops() {
    }

    static void write(ForgoneShop shop, String text) {
        for (int i = 0; i < text.length(); i++) {
            if (shop.write(text.charAt(i)) < 1) {
                throw new IllegalStateException("can not write " + text);
            }
        }
    }

    /** A shop in whose text that is written and nothing more. */
    static ForgoneShop written(String text) {
        ForgoneShop shop = new ForgoneShop();
        write(shop, text);
        return shop;
    }

    static int faultOf(String text) {
        return written(text).fault();
    }

    static String many(String item, int times) {
        StringBuilder text = new StringBuilder();
        for (int i = 0; i < times; i++) {
            text.append(item);
        }
        return text.toString();
    }

    /** A shop as that text tells, with its text empty again. */
    static ForgoneShop laid(String text) {
        ForgoneShop shop = written(text);
        if (shop.lay() < 1) {
            throw new IllegalStateException("can not lay " + text);
        }
        shop.wipe();
        return shop;
    }

    /** A shop as that text tells, in which that has been done. */
    static ForgoneShop laid(String text, String acts) {
        return does(laid(text), acts);
    }

    /**
     * Does some acts, each of which must be possible: s0 sells thing 0, b0 buys it back, p3 lets three
     * days go by, u undoes, k keeps, r goes back to what was kept.
     */
    static ForgoneShop does(ForgoneShop shop, String acts) {
        for (String act : acts.trim().split(" +")) {
            if (!act.isEmpty() && answer(shop, act) < 0) {
                throw new IllegalStateException("can not do " + act + " of " + acts);
            }
        }
        return shop;
    }

    private static int answer(ForgoneShop shop, String act) {
        int n = act.length() > 1 ? Integer.parseInt(act.substring(1)) : 0;
        switch (act.charAt(0)) {
            case 's':
                return shop.sell(n);
            case 'b':
                return shop.buyBack(n);
            case 'p':
                return shop.pass(n);
            case 'u':
                return shop.undo();
            case 'k':
                return shop.keep();
            case 'r':
                return shop.back();
            default:
                throw new IllegalStateException("no act " + act);
        }
    }

    /** All that can be seen of a shop without changing it. */
    static String look(ForgoneShop shop) {
        StringBuilder seen = new StringBuilder(stand(shop));
        seen.append(" text ").append(shop.fault()).append(' ').append(shop.count(11));
        seen.append(" looks ").append(shop.count(8));
        for (int t = 0; t < shop.count(1); t++) {
            seen.append(' ').append(shop.kinds(t));
        }
        return seen.append(" undone ").append(shop.count(9)).append(" kept ").append(shop.count(10)).toString();
    }

    /** How persons, things, the shop and its days stand. */
    static String stand(ForgoneShop shop) {
        StringBuilder seen = new StringBuilder("counts");
        for (int what = 0; what < 8; what++) {
            seen.append(' ').append(shop.count(what));
        }
        for (int p = 0; p < shop.count(0); p++) {
            seen.append(" person ").append(p);
            for (int what = 0; what < 3; what++) {
                seen.append(' ').append(shop.person(p, what));
            }
        }
        for (int t = 0; t < shop.count(1); t++) {
            seen.append(" thing ").append(t);
            for (int what = 0; what < 6; what++) {
                seen.append(' ').append(shop.thing(t, what));
            }
        }
        seen.append(" pays");
        for (int n = 0; n < 24; n++) {
            seen.append(' ').append(shop.pays(n));
        }
        return seen.toString();
    }

    /** All that can be seen, then as all was kept, last first, and as it was ahead of each act that can be undone. */
    static String lookDeep(ForgoneShop shop) {
        StringBuilder seen = new StringBuilder(look(shop));
        for (int left = shop.count(9); left > 0; left--) {
            seen.append("\n undone ").append(shop.undo()).append(' ').append(stand(shop));
        }
        for (int left = shop.count(10); left > 0; left--) {
            seen.append("\n back ").append(shop.back()).append(' ').append(stand(shop));
        }
        return seen.toString();
    }
}
