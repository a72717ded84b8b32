import java.math.BigInteger;

/** Boundaries of promises 20 to 26, one test each: what is seen, how sure, whims, years. */
public final class LookEdges {
    private static final int BAD = -1, NO = -2, FULL = -3, NONE = -4;
    private static final int LOW = Integer.MIN_VALUE, HIGH = Integer.MAX_VALUE;
    private static final Check CHECK = new Check();

    private static void edge(String name, long got, long want) {
        CHECK.edge(name, got, want);
    }

    /** A shop in which that many looks are seen. */
    private static ForgoneShop seen(int looks) {
        ForgoneShop shop = Shops.laid("a0;u0,0,5,1;u0,1,5,1;");
        for (int i = 0; i < looks; i++) {
            shop.see(0, 0, 5);
        }
        return shop;
    }

    private static void sees() {
        edge("20: the first", seen(0).see(0, 0, 0), 1);
        edge("20: the sixth", seen(5).see(0, 0, 0), 6);
        edge("20: a seventh", seen(6).see(0, 0, 0), FULL);
        edge("20: a seventh is not SEEN", afterSeventh().count(8), 6);
        edge("20: a seventh is not SEEN of it", afterSeventh().kinds(0), 15);
        edge("20: BAD ahead of FULL", seen(6).see(0, 0, 100), BAD);
        edge("20: behind 20 DAYS", seen(0).see(0, 20, 0), 1);
        edge("20: NEAR by 99", seen(0).see(0, 0, 99), 1);
        edge("20: the last thing", seen(0).see(1, 0, 0), 1);
        edge("20: the same again counts", seen(1).see(0, 0, 5), 2);
        for (int bad : new int[] {-1, 2, LOW, HIGH}) {
            edge("20: thing " + bad, seen(0).see(bad, 0, 0), BAD);
        }
        for (int bad : new int[] {-1, 21, LOW, HIGH}) {
            edge("20: behind " + bad, seen(0).see(0, bad, 0), BAD);
        }
        for (int bad : new int[] {-1, 100, LOW, HIGH}) {
            edge("20: NEAR by " + bad, seen(0).see(0, 0, bad), BAD);
        }
        edge("20: no things", Shops.laid("a0;").see(0, 0, 0), BAD);
        ForgoneShop gone = Shops.laid("a0;u0,3,2,1;s9,0;", "s0 p1");
        edge("20: of what is GONE", gone.see(0, 0, 0), 1);
    }

    private static ForgoneShop afterSeventh() {
        ForgoneShop shop = seen(6);
        shop.see(0, 0, 6);
        return shop;
    }

    private static void forgets() {
        edge("21: nothing is SEEN", seen(0).forget(), 0);
        edge("21: one", seen(1).forget(), 1);
        edge("21: six", seen(6).forget(), 6);
        ForgoneShop shop = seen(6);
        shop.forget();
        edge("21: nothing then", shop.count(8), 0);
        edge("21: again", shop.forget(), 0);
        edge("21: room again", shop.see(0, 0, 6), 1);
        edge("21: what is SEEN anew counts", shop.kinds(0), 0);
        ForgoneShop some = seen(2);
        some.see(1, 0, 9);
        some.forget();
        edge("21: of every thing", some.kinds(1), 15);
    }

    /** The kinds of thing 0, of that kind and so near, after some acts, by looks of days and near. */
    private static int kinds(int kind, int near, String acts, int... looks) {
        ForgoneShop shop = Shops.laid("a0;u0," + kind + "," + near + ",0;s0,0;x0;", acts);
        for (int i = 0; i < looks.length; i += 2) {
            shop.see(0, looks[i], looks[i + 1]);
        }
        return shop.kinds(0);
    }

    private static void kindsOf() {
        for (int kind = 0; kind < 4; kind++) {
            edge("22: nothing SEEN, KIND " + kind, kinds(kind, 5, ""), 15);
        }
        edge("22: behind 0 DAYS any", kinds(0, 5, "", 0, 5), 15);
        edge("22: behind 0 DAYS none", kinds(0, 5, "", 0, 6), 0);
        edge("22: PLAIN", kinds(3, 5, "", 1, 6), 1);
        edge("22: GROWING", kinds(3, 5, "", 1, 7), 2);
        edge("22: FADING on DAY 0", kinds(3, 5, "", 1, 5), 4);
        edge("22: FADING on DAY 1", kinds(3, 5, "p1", 1, 4), 4);
        edge("22: not FADING on DAY 1", kinds(3, 5, "p1", 1, 5), 0);
        edge("22: SHAM", kinds(0, 5, "", 1, 3), 8);
        edge("22: PLAIN behind 20", kinds(3, 20, "", 20, 40), 1);
        edge("22: GROWING behind 20", kinds(3, 20, "", 20, 60), 2);
        edge("22: FADING behind 20", kinds(3, 20, "", 20, 10), 4);
        edge("22: SHAM behind 20", kinds(0, 20, "", 20, 0), 8);
        edge("22: FADING and SHAM behind 20", kinds(0, 10, "", 20, 0), 12);
        edge("22: FADING of 11 not", kinds(0, 11, "", 20, 0), 8);
        edge("22: none", kinds(0, 5, "", 1, 8), 0);
        edge("22: all that is SEEN", kinds(0, 5, "", 1, 6, 2, 7), 1);
        edge("22: all that is SEEN, the last not", kinds(0, 5, "", 1, 6, 2, 8), 0);
        edge("22: all that is SEEN, the first not", kinds(0, 5, "", 1, 7, 2, 7), 0);
        edge("22: the sixth as well", kinds(0, 5, "", 0, 5, 0, 5, 0, 5, 0, 5, 0, 5, 1, 6), 1);
        edge("22: PLAIN and GROWING from 99", kinds(1, 20, "s0 p24 p24", 20, 99), 3);
        edge("22: PLAIN from 98", kinds(1, 20, "s0 p24 p15", 1, 99), 3);
        edge("22: SHAM from 1, not below 0", kinds(0, 1, "", 1, 0), 8);
        edge("22: SHAM from 2", kinds(0, 2, "", 1, 0), 8);
        edge("22: GONE, by any KIND", kinds(3, 2, "s0 p1", 20, 0), 15);
        edge("22: GONE, now", kinds(3, 2, "s0 p1", 0, 0), 15);
        edge("22: GONE, not by 1", kinds(3, 2, "s0 p1", 1, 1), 0);
        edge("22: GONE, nothing SEEN", kinds(3, 2, "s0 p1"), 15);
        edge("22: in the CELLAR from how it stands", kinds(0, 5, "s0 p2", 1, 8), 1);
        edge("22: bought back from how it stands", kinds(0, 5, "s0 p2 b0", 1, 8), 1);
    }

    private static void kindsAsked() {
        ForgoneShop shop = Shops.laid("a0;u0,3,5,1;u0,1,5,1;s0,0;x0;");
        shop.see(1, 1, 7);
        edge("22: nothing is SEEN of this thing", shop.kinds(0), 15);
        edge("22: SEEN of the other", shop.kinds(1), 2);
        shop.see(0, 1, 3);
        Shops.does(shop, "s0 p1");
        edge("22: from how it stands when asked, 3 now", shop.kinds(0), 0);
        shop.undo();
        edge("22: from how it stands when undone, 5 now", shop.kinds(0), 8);
        Shops.does(shop, "p2");
        edge("22: from how it stands when asked, 1 now", shop.kinds(0), 2);
        for (int bad : new int[] {-1, 2, LOW, HIGH}) {
            edge("22: thing " + bad, shop.kinds(bad), BAD);
        }
        edge("22: no things", Shops.laid("a0;").kinds(0), BAD);
    }

    private static void sure(String name, int[] call, int above, int below) {
        ForgoneShop shop = new ForgoneShop();
        edge("23: " + name + ", above", shop.sure(call[0], call[1], call[2], call[3], 0), above);
        edge("23: " + name + ", below", shop.sure(call[0], call[1], call[2], call[3], 1), below);
    }

    private static void sures() {
        sure("no looks", new int[] {1, 0, 0, 0}, 1, 10);
        sure("no looks, lowest terms", new int[] {5, 9, 0, 0}, 1, 2);
        sure("no looks, 9", new int[] {9, 9, 0, 0}, 9, 10);
        sure("never wrong, told one", new int[] {1, 0, 1, 0}, 1, 1);
        sure("never wrong, told one four times", new int[] {9, 0, 4, 0}, 1, 1);
        sure("never wrong, told none", new int[] {1, 0, 0, 1}, 0, 1);
        sure("never wrong, told none four times", new int[] {9, 0, 0, 4}, 0, 1);
        sure("never wrong, told both", new int[] {5, 0, 1, 1}, NONE, NONE);
        sure("never wrong, told both, all", new int[] {9, 0, 4, 4}, NONE, NONE);
        sure("wrong by 1, told both", new int[] {9, 1, 4, 4}, 9, 10);
        sure("wrong by 9, told both", new int[] {4, 9, 1, 1}, 2, 5);
        sure("wrong by half", new int[] {3, 5, 4, 0}, 3, 10);
        sure("wrong by 1, told one", new int[] {1, 1, 4, 0}, 729, 730);
        sure("wrong by 1, told none", new int[] {9, 1, 0, 4}, 1, 730);
        sure("wrong by 9, told one", new int[] {1, 9, 4, 0}, 1, 59050);
        sure("wrong by 9, told none", new int[] {9, 9, 0, 4}, 59049, 59050);
        sure("one more told one", new int[] {5, 1, 3, 2}, 9, 10);
        sure("one more told none", new int[] {5, 1, 2, 3}, 1, 10);
        int[] low = {1, 0, 0, 0, 0};
        int[] high = {9, 9, 4, 4, 1};
        String[] names = {"s", "e", "a", "b", "part"};
        for (int i = 0; i < 5; i++) {
            for (int bad : new int[] {low[i] - 1, high[i] + 1, LOW, HIGH}) {
                int[] c = {5, 1, 1, 1, 1};
                c[i] = bad;
                edge("23: " + names[i] + " of " + bad, new ForgoneShop().sure(c[0], c[1], c[2], c[3], c[4]), BAD);
            }
        }
        edge("23: BAD ahead of NONE", new ForgoneShop().sure(5, 0, 1, 1, 2), BAD);
        edge("23: without things", Shops.laid("a0;").sure(1, 0, 0, 0, 1), 10);
    }

    private static int fine(String text, String acts, int looks) {
        return Shops.laid("a0;" + text, acts).fine(0, looks);
    }

    private static void fines() {
        edge("24: one look, just as much", fine("u0,0,7,0;x1;", "", 1), 3);
        edge("24: one look, a little more", fine("u0,0,8,0;x1;", "", 1), 4);
        edge("24: one look, a little less", fine("u0,0,6,0;x1;", "", 1), 3);
        edge("24: one look, PRICE of 1", fine("u0,0,1,0;x1;", "", 1), 1);
        edge("24: PRICE of 0", fine("u0,0,5,0;x0;", "", 1), 0);
        edge("24: PRICE of 0, four looks", fine("u0,0,5,0;x0;", "", 4), 0);
        edge("24: two looks, just as much", fine("u0,0,13,0;x7;", "", 2), 9);
        edge("24: two looks, a little more", fine("u0,0,14,0;x7;", "", 2), 10);
        edge("24: three looks, less than 1", fine("u0,0,18,0;x2;", "", 3), 1);
        edge("24: three looks, more than 1", fine("u0,0,20,0;x1;s99,0;", "s0 p17", 3), 2);
        edge("24: four looks, less than 1", fine("u0,0,20,0;x2;s99,0;", "s0 p24 p17", 4), 1);
        edge("24: four looks, more than 1", fine("u0,0,20,0;x3;s99,0;", "s0 p21", 4), 2);
        String most = "u0,1,20,0;x0;x9;";
        int[] fines = {0, 382, 89, 25, 8};
        for (int looks = 1; looks <= 4; looks++) {
            edge("24: the dearest of all, looks " + looks, fine(most, "s0 p24 p17", looks), fines[looks]);
        }
        edge("24: X of this DAY", fine("u0,0,7,0;x1;x2;", "p1", 1), 6);
        edge("24: GONE", fine("u0,3,2,0;s9,0;", "s0 p1", 1), 0);
        edge("24: a SHAM", fine("u0,3,7,0;x1;", "", 1), 3);
        edge("24: the SHOP without MONEY", fine("u0,3,7,0;x1;s0,20;", "", 1), 3);
        for (int bad : new int[] {0, 5, -1, LOW, HIGH}) {
            edge("24: looks " + bad, fine("u0,0,7,0;x1;", "", bad), BAD);
        }
        for (int bad : new int[] {-1, 8, LOW, HIGH}) {
            edge("24: thing " + bad, new ForgoneShop().fine(bad, 1), BAD);
        }
        edge("24: no things", Shops.laid("a0;").fine(0, 1), BAD);
    }

    private static void whim(String name, String text, int[] call, int above, int below) {
        ForgoneShop shop = Shops.laid("a0;" + text);
        edge("25: " + name + ", above", shop.whims(0, call[0], call[1], call[2], 0), above);
        edge("25: " + name + ", below", shop.whims(0, call[0], call[1], call[2], 1), below);
    }

    private static void whims() {
        String one = "u0,0,4,0;x2;";
        whim("on no DAY", one, new int[] {0, 0, 0}, 0, 1);
        whim("on no DAY, always 0", one, new int[] {0, 0, 10}, 0, 1);
        whim("0 or more always", one, new int[] {1, 0, 10}, 1, 1);
        whim("0 or more on 8 DAYS", one, new int[] {8, 0, 10}, 1, 1);
        whim("1 or more never", one, new int[] {8, 1, 10}, 0, 1);
        whim("never 0 by whim", one, new int[] {1, 8, 0}, 1, 1);
        whim("never 0 by whim, one more", one, new int[] {1, 9, 0}, 0, 1);
        whim("just as much", one, new int[] {1, 8, 3}, 7, 10);
        whim("one less", one, new int[] {1, 7, 3}, 7, 10);
        whim("one more", one, new int[] {1, 9, 3}, 0, 1);
        whim("999", one, new int[] {8, 999, 3}, 0, 1);
        whim("lowest terms", one, new int[] {1, 8, 4}, 3, 5);
        whim("two DAYS", one, new int[] {2, 8, 5}, 3, 4);
        whim("8 DAYS by 9 of ten", one, new int[] {8, 8, 9}, 56953279, 100000000);
        whim("8 DAYS by 1 of ten", one, new int[] {8, 8, 1}, 99999999, 100000000);
        whim("8 DAYS by half", one, new int[] {8, 8, 5}, 255, 256);
        whim("told as 0, 0 or more", "u0,0,4,0;x0;", new int[] {1, 0, 5}, 1, 1);
        whim("told as 0, 1 or more", "u0,0,4,0;x0;", new int[] {8, 1, 0}, 0, 1);
        String three = "u0,0,4,0;x1;x2;x3;";
        whim("the first is this DAY", three, new int[] {1, 4, 3}, 7, 10);
        whim("not the DAY behind it", three, new int[] {1, 8, 3}, 0, 1);
        whim("the second DAY", three, new int[] {2, 8, 3}, 7, 10);
        whim("not the DAY behind two", three, new int[] {2, 12, 3}, 0, 1);
        whim("two of three DAYS", three, new int[] {3, 8, 3}, 91, 100);
        whim("behind the last X the first again", three, new int[] {6, 12, 3}, 91, 100);
        whim("the eighth DAY", "u0,0,4,0;x1;x1;x1;x1;x1;x1;x1;x2;", new int[] {8, 8, 3}, 7, 10);
        whim("not the eighth of 7 DAYS", "u0,0,4,0;x1;x1;x1;x1;x1;x1;x1;x2;", new int[] {7, 8, 3}, 0, 1);
        whim("180, the most there is", "u0,0,20,0;x9;", new int[] {1, 180, 1}, 9, 10);
        whim("181", "u0,0,20,0;x9;", new int[] {1, 181, 1}, 0, 1);
        whim("it stays as it is, GROWING", "u0,1,4,0;x2;", new int[] {8, 9, 0}, 0, 1);
    }

    private static void whimsRefused() {
        String text = "a0;u0,3,4,0;x2;s9,0;";
        edge("25: from a later DAY on", Shops.laid("a0;u0,0,4,0;x1;x2;x3;", "p1").whims(0, 1, 8, 3, 0), 7);
        edge("25: in the CELLAR", Shops.laid(text, "s0").whims(0, 1, 1, 1, 0), NO);
        edge("25: in the CELLAR, on no DAY", Shops.laid(text, "s0").whims(0, 0, 0, 0, 1), NO);
        edge("25: GONE", Shops.laid(text, "s0 p2").whims(0, 1, 0, 1, 1), NO);
        edge("25: bought back", Shops.laid(text, "s0 p1 b0").whims(0, 1, 4, 1, 0), 9);
        edge("25: BAD ahead of NO", Shops.laid(text, "s0").whims(0, 1, 1, 1, 2), BAD);
        edge("25: BAD DAYS ahead of NO", Shops.laid(text, "s0").whims(0, 9, 1, 1, 1), BAD);
        int[] low = {0, 0, 0, 0, 0};
        int[] high = {0, 8, 999, 10, 1};
        String[] names = {"thing", "n", "m", "x", "part"};
        for (int i = 0; i < 5; i++) {
            for (int bad : new int[] {low[i] - 1, high[i] + 1, LOW, HIGH}) {
                int[] c = {0, 1, 1, 1, 1};
                c[i] = bad;
                edge("25: " + names[i] + " of " + bad, Shops.laid(text).whims(c[0], c[1], c[2], c[3], c[4]), BAD);
            }
        }
        edge("25: no things", Shops.laid("a0;").whims(0, 0, 0, 0, 0), BAD);
    }

    private static int draw(int z, int k) {
        BigInteger x = BigInteger.valueOf(7919L * z).add(BigInteger.valueOf(6151L * k + 1));
        return x.multiply(x).mod(BigInteger.valueOf(65521)).intValue();
    }

    /** A year lived day by day on a shop of its own. */
    private static ForgoneShop lived(ForgoneShop shop, int z, int n) {
        int things = shop.count(1);
        for (int k = 0; k < n; k++) {
            int draw = draw(z, k);
            if (things > 0 && draw % 8 < 4) {
                shop.sell(draw / 8 % things);
            } else if (things > 0 && draw % 8 < 6) {
                shop.buyBack(draw / 8 % things);
            }
            shop.pass(1);
        }
        return shop;
    }

    private static int rueOfAll(ForgoneShop shop) {
        int all = 0;
        for (int p = 0; p < shop.count(0); p++) {
            all += shop.person(p, 1);
        }
        return all;
    }

    private static void yearIsLived(String text, String acts, int z, int n) {
        String name = "26: by " + z + " of " + n + " behind " + acts + " with " + text;
        ForgoneShop then = lived(Shops.laid(text, acts), z, n);
        edge(name + ", NEAR", Shops.laid(text, acts).year(z, n, 0), then.count(7));
        edge(name + ", RUE", Shops.laid(text, acts).year(z, n, 1), rueOfAll(then));
    }

    private static void yearsLived() {
        for (int z : new int[] {0, 1, 5000, 9998, 9999}) {
            for (int n : new int[] {1, 2, 59, 60}) {
                yearIsLived(Shops.FIRST, "", z, n);
                yearIsLived(Shops.FIRST, "s0 p3 s1 p1", z, n);
                yearIsLived("a0;u0,0,5,1;x0;", "", z, n);
                yearIsLived("a50;a50;u0,0,9,3;u1,3,20,2;u0,1,5,7;x1;x0;x2;s30,2;", "s1", z, n);
            }
        }
    }

    private static void draws() {
        // the draws by these at k = 0 are 0 to 7 modulo 8
        int[] z = {5, 0, 16, 1, 15, 2, 3, 4};
        for (int rest = 0; rest < 8; rest++) {
            edge("26: the draw is " + rest + " modulo 8", draw(z[rest], 0) % 8, rest);
            edge("26: with a PERSON, draw " + rest, Shops.laid("a0;u0,0,5,0;x0;").year(z[rest], 1, 0), rest < 4 ? 6 : 0);
            boolean back = rest == 4 || rest == 5;
            edge("26: in the CELLAR, draw " + rest, Shops.laid("a0;u0,0,5,0;x0;", "s0").year(z[rest], 1, 0), back ? 0 : 6);
        }
    }

    private static void years() {
        edge("26: without things, NEAR", Shops.laid("a0;").year(0, 60, 0), 0);
        edge("26: without things, RUE", Shops.laid("a0;").year(0, 60, 1), 0);
        edge("26: the SHOP has as much", Shops.laid("a0;u0,0,5,1;s5,5;x1;").year(0, 1, 0), 6);
        edge("26: the SHOP has one too little", Shops.laid("a0;u0,0,5,1;s4,5;x1;").year(0, 1, 0), 0);
        edge("26: not NEAR by L", Shops.laid("a0;u0,0,5,1;s5,6;x1;").year(0, 1, 0), 0);
        edge("26: too dear to be bought back", Shops.laid("a0;u0,0,5,1;x1;x2;", "s0 p1").year(2, 1, 0), 7);
        edge("26: RUED on its first DAY", Shops.laid("a0;u0,0,5,3;x1;").year(0, 1, 1), 3);
        edge("26: RUE of up to now as well", Shops.laid("a0;u0,0,5,3;x1;", "s0 p2").year(3, 1, 1), 9);
        edge("26: RUE of what was bought back", Shops.laid("a9;u0,0,5,3;x1;", "s0 p2 b0").year(3, 1, 1), 6);
        edge("26: RUE of all", Shops.laid("a0;a0;u0,0,5,3;u1,0,5,4;x1;", "s0 s1").year(3, 1, 1), 7);
        edge("26: GONE in the year", Shops.laid("a0;u0,3,2,3;s9,0;x1;").year(0, 1, 0), 0);
        edge("26: GONE things among as many as there are", Shops.laid("a0;u0,3,2,0;u0,0,5,0;x0;s9,0;", "s0 p1").year(0, 1, 0), 0);
        edge("26: X as DAYS go by", Shops.laid("a0;u0,0,5,1;s9,0;x2;x1;", "p1").year(0, 1, 0), 6);
        edge("26: X of a dear DAY", Shops.laid("a0;u0,0,5,1;s9,0;x2;x1;").year(0, 1, 0), 0);
        edge("26: draws begin with 0 on any DAY", Shops.laid("a0;u0,0,5,1;x0;", "p7").year(0, 1, 0), 6);
        ForgoneShop shop = new ForgoneShop();
        for (int bad : new int[] {-1, 10000, LOW, HIGH}) {
            edge("26: by " + bad, shop.year(bad, 1, 0), BAD);
        }
        for (int bad : new int[] {0, -1, 61, LOW, HIGH}) {
            edge("26: of " + bad, shop.year(0, bad, 0), BAD);
        }
        for (int bad : new int[] {-1, 2, LOW, HIGH}) {
            edge("26: what " + bad, shop.year(0, 1, bad), BAD);
        }
        edge("26: the same again", shop.year(5, 60, 0), 121);
        edge("26: the same again, RUE", shop.year(5, 60, 1), 796);
    }

    public static void main(String[] args) {
        sees();
        forgets();
        kindsOf();
        kindsAsked();
        sures();
        fines();
        whims();
        whimsRefused();
        draws();
        years();
        yearsLived();
        CHECK.close();
    }
}
