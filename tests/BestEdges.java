/** Boundaries of promises 13 to 19, one test each: what comes, what is best. */
public final class BestEdges {
    private static final int BAD = -1, NO = -2, NONE = -4;
    private static final int LOW = Integer.MIN_VALUE, HIGH = Integer.MAX_VALUE;
    private static final Check CHECK = new Check();

    private static void edge(String name, long got, long want) {
        CHECK.edge(name, got, want);
    }

    private static int behind(int kind, int near, String acts, int days) {
        return Shops.laid("a0;u0," + kind + "," + near + ",0;s0,0;x0;", acts).behind(days, 0);
    }

    private static void behind() {
        for (int kind = 0; kind < 4; kind++) {
            edge("13: with its PERSON, behind 40 DAYS, KIND " + kind, behind(kind, 7, "", 40), 7);
            edge("13: in the CELLAR, behind 0 DAYS, KIND " + kind, behind(kind, 7, "s0", 0), 7);
            edge("13: bought back, KIND " + kind, behind(kind, 7, "s0 b0", 40), 7);
        }
        edge("13: PLAIN behind 40 DAYS", behind(0, 20, "s0", 40), 60);
        edge("13: PLAIN to 98", behind(0, 20, "s0 p24 p24", 30), 98);
        edge("13: PLAIN to 99", behind(0, 20, "s0 p24 p24", 31), 99);
        edge("13: PLAIN 99 at most", behind(0, 20, "s0 p24 p24", 32), 99);
        edge("13: GROWING to 98", behind(1, 20, "s0", 39), 98);
        edge("13: GROWING 99 at most", behind(1, 20, "s0", 40), 99);
        edge("13: GROWING to 99 at most, uneven", behind(1, 19, "s0", 40), 99);
        edge("13: FADING by DAY 0", behind(2, 5, "s0", 1), 5);
        edge("13: FADING by DAYS 0 and 1", behind(2, 5, "s0", 2), 4);
        edge("13: FADING by DAY 1", behind(2, 5, "s0 p1", 1), 4);
        edge("13: FADING from 1 by DAY 0", behind(2, 1, "s0", 1), 1);
        edge("13: FADING from 1 is NEAR by 0", behind(2, 1, "s0", 2), 0);
        edge("13: FADING from 1, not below 0", behind(2, 1, "s0", 40), 0);
        edge("13: FADING of 20 at its end", behind(2, 20, "s0", 39), 1);
        edge("13: FADING of 20 is GONE behind 40", behind(2, 20, "s0", 40), 0);
        edge("13: SHAM to 1", behind(3, 5, "s0", 2), 1);
        edge("13: SHAM from 1, not below 0", behind(3, 5, "s0", 3), 0);
        edge("13: SHAM to 0", behind(3, 4, "s0", 2), 0);
        edge("13: GONE stays so", behind(3, 4, "s0", 40), 0);
        edge("13: GONE already", behind(3, 2, "s0 p1", 0), 0);
        edge("13: GONE already, behind 40 DAYS", behind(3, 2, "s0 p1", 40), 0);
        for (int bad : new int[] {-1, 41, LOW, HIGH}) {
            edge("13: behind " + bad + " DAYS", behind(0, 5, "s0", bad), BAD);
        }
        for (int bad : new int[] {-1, 8, LOW, HIGH}) {
            edge("13: thing " + bad, new ForgoneShop().behind(0, bad), BAD);
        }
        edge("13: the last thing", new ForgoneShop().behind(0, 7), 5);
        edge("13: no things", Shops.laid("a0;").behind(0, 0), BAD);
    }

    private static int heard(String things, String acts, int h) {
        return Shops.laid("a0;" + things + "s0,0;x0;", acts).heard(h);
    }

    private static void heard() {
        edge("14: at once", heard("u0,0,5,0;", "s0", 5), 0);
        edge("14: one more", heard("u0,0,5,0;", "s0", 6), 1);
        edge("14: 1 at once", heard("u0,0,1,0;", "s0", 1), 0);
        edge("14: behind 60 DAYS", heard("u0,0,5,0;", "s0", 65), 60);
        edge("14: not behind 61 DAYS", heard("u0,0,5,0;", "s0", 66), NONE);
        edge("14: by 2 a DAY beyond it", heard("u0,1,20,0;", "s0", 21), 1);
        edge("14: 99 at most", heard("u0,1,20,0;", "s0", 99), 40);
        edge("14: one more than 99 at most", heard("u0,1,20,0;", "s0", 100), NONE);
        edge("14: with a PERSON it is not heard", heard("u0,0,5,0;", "", 1), NONE);
        edge("14: bought back it is not heard", heard("u0,0,5,0;", "s0 b0", 1), NONE);
        edge("14: without things", heard("", "", 1), NONE);
        edge("14: GONE it is not heard", heard("u0,3,2,0;", "s0 p1", 1), NONE);
        edge("14: in sum", heard("u0,0,5,0;u0,0,6,0;", "s0 s1", 11), 0);
        edge("14: in sum, one more", heard("u0,0,5,0;u0,0,6,0;", "s0 s1", 12), 1);
        edge("14: what is with a PERSON does not count", heard("u0,0,5,0;u0,0,6,0;", "s0", 6), 1);
        edge("14: a SHAM is heard at once or never", heard("u0,3,9,0;", "s0", 9), 0);
        edge("14: a SHAM never", heard("u0,3,9,0;", "s0", 10), NONE);
        edge("14: FADING, never", heard("u0,2,9,0;", "s0", 10), NONE);
        edge("14: first, though less behind it", heard("u0,3,10,0;u0,0,5,0;", "s0 s1", 15), 0);
        edge("14: once the SHAM is GONE", heard("u0,3,10,0;u0,0,5,0;", "s0 s1", 16), 11);
        edge("14: FADING from DAY 0", heard("u0,2,5,0;u0,0,5,0;", "s0 s1", 11), 1);
        edge("14: FADING from DAY 1", heard("u0,2,5,0;u0,0,5,0;", "p1 s0 s1", 11), 2);
        String all = Shops.many("u0,1,20,0;", 8);
        String sales = "s0 s1 s2 s3 s4 s5 s6 s7";
        edge("14: most of all eight", heard(all, sales, 792), 40);
        edge("14: more than all eight", heard(all, sales, 793), NONE);
        edge("14: 999", heard(all, sales, 999), NONE);
        for (int bad : new int[] {0, -1, 1000, LOW, HIGH}) {
            edge("14: heard " + bad, heard(all, sales, bad), BAD);
        }
        edge("14: BAD ahead of NONE", heard("", "", 1000), BAD);
    }

    private static int sum(String text, String acts, int m, int what) {
        return Shops.laid("a0;a0;" + text, acts).sum(0, m, what);
    }

    private static void sums() {
        String text = "u0,0,5,3;u0,0,5,3;u0,0,10,6;u1,0,9,1;x1;s15,5;";
        edge("15: 0, nothing is needed", sum(text, "", 0, 0), 0);
        edge("15: 0, nothing is RUED", sum(text, "", 0, 1), 0);
        edge("15: 1", sum(text, "", 1, 0), 1);
        edge("15: just m", sum(text, "", 5, 0), 1);
        edge("15: one more, lowest as bits of two sets", sum(text, "", 6, 0), 3);
        edge("15: one more, RUE", sum(text, "", 6, 1), 6);
        edge("15: all that the SHOP has", sum(text, "", 15, 0), 5);
        edge("15: all that the SHOP has, RUE", sum(text, "", 15, 1), 9);
        edge("15: more than the SHOP has", sum(text, "", 16, 0), NONE);
        edge("15: more than the SHOP has, RUE", sum(text, "", 16, 1), NONE);
        edge("15: the SHOP has one too little", sum(text + "s14,5;", "", 15, 0), NONE);
        edge("15: the SHOP has more, all that are there", sum(text + "s99,5;", "", 20, 0), 7);
        edge("15: more than there is", sum(text + "s99,5;", "", 21, 0), NONE);
        edge("15: 999", sum(text + "s99,5;", "", 999, 0), NONE);
        edge("15: L of one more", sum(text + "s99,6;", "", 5, 0), 4);
        edge("15: L of all", sum(text + "s99,10;", "", 10, 0), 4);
        edge("15: L beyond all", sum(text + "s99,11;", "", 1, 0), NONE);
        edge("15: L beyond all, but for 0", sum(text + "s99,11;", "", 0, 0), 0);
        edge("15: not what is SOLD", sum(text + "s99,5;", "s0", 20, 0), NONE);
        edge("15: what is left", sum(text + "s99,5;", "s0", 15, 0), 6);
        edge("15: with what the SHOP has left", sum(text, "s0", 10, 0), 4);
        edge("15: not what is GONE", sum("u0,3,2,0;x1;s9,0;", "s0 p1", 1, 0), NONE);
        edge("15: the SHOP without MONEY, for nothing", sum("u0,0,5,3;x0;s0,0;", "", 0, 0), 0);
        edge("15: PRICES of 0 are no sum", sum("u0,0,5,0;x0;s0,0;", "", 1, 0), NONE);
        edge("15: X of this DAY", sum("u0,0,5,3;x1;x2;", "p1", 10, 0), 1);
        edge("15: X of this DAY alone", sum("u0,0,5,3;x1;x2;", "", 10, 0), NONE);
        edge("15: two RUED less than one", sum("u0,0,9,9;u0,0,5,4;u0,0,5,4;x1;", "", 9, 0), 6);
        edge("15: one RUED less than two", sum("u0,0,5,4;u0,0,5,4;u0,0,9,7;x1;", "", 9, 0), 4);
        edge("15: as much by two as by one, lowest as bits", sum("u0,0,9,8;u0,0,5,4;u0,0,5,4;x1;", "", 9, 0), 1);
        edge("15: as much by two as by a higher one", sum("u0,0,5,4;u0,0,5,4;u0,0,9,8;x1;", "", 9, 0), 3);
        edge("15: RUED by 0, but not needed", sum("u0,0,5,0;u0,0,5,0;x1;", "", 5, 0), 1);
        edge("15: RUED by 0, set 0 is lowest", sum("u0,0,5,0;u0,0,5,0;x1;", "", 0, 0), 0);
        edge("15: RUED by 20 each", sum(Shops.many("u0,0,12,20;", 8) + "x1;s99,0;", "", 96, 1), 160);
        edge("15: all eight", sum(Shops.many("u0,0,12,20;", 8) + "x1;s99,0;", "", 96, 0), 255);
        edge("15: lower bits ahead of fewer things", sum(Shops.many("u0,0,1,0;", 3) + "u0,0,3,0;x1;s9,0;", "", 3, 0), 7);
    }

    private static void sumsRefused() {
        ForgoneShop shop = Shops.laid("a0;a0;u0,0,5,3;u1,0,9,1;x1;s15,5;");
        edge("15: another PERSON's", shop.sum(1, 9, 0), 2);
        edge("15: another PERSON's RUE", shop.sum(1, 9, 1), 1);
        edge("15: not with what is another's", shop.sum(1, 10, 0), NONE);
        edge("15: a PERSON without things", Shops.laid("a0;").sum(0, 1, 0), NONE);
        edge("15: a PERSON without things needs nothing", Shops.laid("a0;").sum(0, 0, 0), 0);
        for (int bad : new int[] {-1, 2, LOW, HIGH}) {
            edge("15: PERSON " + bad, shop.sum(bad, 0, 0), BAD);
            edge("15: what " + bad, shop.sum(0, 0, bad), BAD);
        }
        for (int bad : new int[] {-1, 1000, LOW, HIGH}) {
            edge("15: m " + bad, shop.sum(0, bad, 0), BAD);
        }
        edge("15: BAD ahead of NONE", shop.sum(0, 999, 2), BAD);
    }

    private static int take(String text, String acts, int days, int what) {
        return Shops.laid("a0;a0;" + text, acts).take(days, what);
    }

    private static void takes() {
        String text = "u0,0,5,3;u1,0,10,3;x1;";
        edge("16: the SHOP has enough for all", take(text + "s15,0;", "", 0, 0), 3);
        edge("16: how much", take(text + "s15,0;", "", 0, 1), 15);
        edge("16: the SHOP has one too little", take(text + "s14,0;", "", 0, 0), 2);
        edge("16: the SHOP has enough for the lesser one", take(text + "s9,0;", "", 0, 0), 1);
        edge("16: the SHOP has enough for none", take(text + "s4,0;", "", 0, 0), 0);
        edge("16: none, how much", take(text + "s4,0;", "", 0, 1), 0);
        edge("16: for nothing all", take("u0,0,5,3;u1,0,10,3;x0;s0,0;", "", 0, 0), 3);
        edge("16: L of the lesser one", take(text + "s15,5;", "", 0, 0), 3);
        edge("16: L beyond the lesser one", take(text + "s15,6;", "", 0, 0), 2);
        edge("16: L beyond both", take(text + "s15,11;", "", 0, 0), 0);
        edge("16: behind 20 DAYS", take(text + "s15,0;", "", 20, 1), 55);
        edge("16: lowest as bits, two for one", take("u0,0,5,3;u0,0,5,3;u0,0,10,3;x1;s10,0;", "", 0, 0), 3);
        edge("16: lowest as bits, one for two", take("u0,0,10,3;u0,0,5,3;u0,0,5,3;x1;s10,0;", "", 0, 0), 1);
        edge("16: behind a DAY two are more", take("u0,0,10,3;u0,0,5,3;u0,0,5,3;x1;s10,0;", "", 1, 0), 6);
        edge("16: a SHAM that is GONE then is not taken", take("u0,3,2,3;u0,0,1,3;x1;s9,0;", "", 1, 0), 2);
        edge("16: a SHAM that is not yet GONE", take("u0,3,3,3;u0,0,1,3;x1;s9,0;", "", 1, 0), 3);
        edge("16: SHAMS alone, none", take("u0,3,20,3;u0,3,20,3;x1;s99,0;", "", 20, 0), 0);
        edge("16: SHAMS alone, now", take("u0,3,20,3;u0,3,20,3;x1;s99,0;", "", 0, 0), 3);
        edge("16: SHAMS alone, how much", take("u0,3,20,3;u0,3,20,3;x1;s99,0;", "", 9, 1), 4);
        edge("16: FADING from DAY 0", take("u0,2,5,3;u0,0,4,3;x1;s5,0;", "", 1, 0), 1);
        edge("16: FADING from DAY 1", take("u0,2,5,3;u0,0,4,3;x1;s5,0;", "p1", 1, 0), 2);
        edge("16: X of this DAY", take("u0,0,5,3;u1,0,10,3;x1;x2;s15,0;", "p1", 0, 0), 1);
        edge("16: what is in the CELLAR counts", take(text + "s15,0;", "s1", 1, 1), 17);
        edge("16: what is in the CELLAR is not taken", take(text + "s15,0;", "s1", 1, 0), 1);
        edge("16: what is in the CELLAR with none", take(text + "s10,0;", "s1", 20, 1), 30);
        edge("16: what is GONE counts not", take("u0,3,2,3;x1;s9,0;", "s0 p1", 0, 1), 0);
        edge("16: what is GONE is not taken", take("u0,3,2,3;x0;s9,0;", "s0 p1", 0, 0), 0);
        edge("16: 99 at most", take("u0,1,20,3;x0;", "s0 p24 p12 b0", 20, 1), 99);
        edge("16: all eight", take(Shops.many("u0,1,20,0;", 8) + "x0;s0,20;", "", 20, 0), 255);
        edge("16: all eight, how much", take(Shops.many("u0,1,20,0;", 8) + "x0;s0,20;", "", 20, 1), 480);
        edge("16: no things", take("", "", 20, 0), 0);
        edge("16: no things, how much", take("", "", 20, 1), 0);
        for (int bad : new int[] {-1, 21, LOW, HIGH}) {
            edge("16: behind " + bad, take(text, "", bad, 0), BAD);
        }
        for (int bad : new int[] {-1, 2, LOW, HIGH}) {
            edge("16: what " + bad, take(text, "", 0, bad), BAD);
        }
    }

    private static int when(String text, String acts, int what) {
        return Shops.laid("a0;" + text, acts).when(0, what);
    }

    private static void whens() {
        String twelve = "u0,0,4,0;" + Shops.many("x1;", 11) + "x2;";
        edge("17: this DAY", when("u0,0,4,0;x5;x1;", "", 0), 0);
        edge("17: the next DAY", when("u0,0,4,0;x1;x5;", "", 0), 1);
        edge("17: its PRICE", when("u0,0,4,0;x1;x5;", "", 1), 20);
        edge("17: of several the first", when("u0,0,4,0;x1;x5;x5;", "", 0), 1);
        edge("17: this DAY of several", when("u0,0,4,0;x5;x1;x5;", "", 0), 0);
        edge("17: always as much", when("u0,0,4,0;", "", 0), 0);
        edge("17: always as much, PRICE", when("u0,0,4,0;", "", 1), 12);
        edge("17: always 0", when("u0,0,4,0;x0;", "", 0), 0);
        edge("17: always 0, PRICE", when("u0,0,4,0;x0;", "", 1), 0);
        edge("17: the last of twelve", when(twelve, "", 0), 11);
        edge("17: the last of twelve, from the one before", when(twelve, "p10", 0), 1);
        edge("17: the last of twelve, on its DAY", when(twelve, "p11", 0), 0);
        edge("17: the last of twelve, behind it", when(twelve, "p12", 0), 11);
        edge("17: behind the last one the first again", when("u0,0,4,0;x9;x1;x2;", "p1", 0), 2);
        edge("17: it stays as it is, GROWING", when("u0,1,4,0;x1;", "", 0), 0);
        edge("17: it stays as it is, SHAM", when("u0,3,4,0;x1;x2;", "", 1), 8);
        edge("17: L and the SHOP's MONEY are nothing to it", when("u0,0,4,0;x1;x2;s0,20;", "", 1), 8);
        edge("17: in the CELLAR", when("u0,0,4,0;", "s0", 0), NO);
        edge("17: in the CELLAR, PRICE", when("u0,0,4,0;", "s0", 1), NO);
        edge("17: bought back", when("u0,0,4,0;", "s0 b0", 1), 12);
        edge("17: GONE", when("u0,3,4,0;", "s0 p2", 0), NO);
        edge("17: BAD ahead of NO", when("u0,0,4,0;", "s0", 2), BAD);
        for (int bad : new int[] {-1, 2, LOW, HIGH}) {
            edge("17: what " + bad, when("u0,0,4,0;", "", bad), BAD);
        }
        for (int bad : new int[] {-1, 8, LOW, HIGH}) {
            edge("17: thing " + bad, new ForgoneShop().when(bad, 0), BAD);
        }
        edge("17: no things", Shops.laid("a0;").when(0, 0), BAD);
    }

    private static int pair(String things, String acts, int v) {
        return Shops.laid("a0;a0;" + things + "x0;s0,0;", acts).pair(v);
    }

    private static void pairs() {
        edge("18: 2", pair("u0,0,1,0;u0,0,1,0;", "", 2), 1);
        edge("18: 198", pair("u0,1,20,0;u0,1,20,0;", "s0 s1 p24 p24", 198), 1);
        edge("18: 198 but for one", pair("u0,1,20,0;u0,1,20,0;", "s0 p24 p15 s1 p24 p15", 198), NONE);
        edge("18: 197", pair("u0,1,20,0;u0,1,20,0;", "s0 p24 p15 s1 p24 p15", 197), 1);
        for (int bad : new int[] {1, 0, -1, 199, LOW, HIGH}) {
            edge("18: " + bad, pair("u0,0,1,0;u0,0,1,0;", "", bad), BAD);
        }
        edge("18: BAD ahead of NONE", pair("", "", 199), BAD);
        edge("18: no things", pair("", "", 2), NONE);
        edge("18: one thing is no two", pair("u0,0,5,0;", "", 10), NONE);
        edge("18: one less", pair("u0,0,5,0;u0,0,6,0;", "", 10), NONE);
        edge("18: one more", pair("u0,0,5,0;u0,0,6,0;", "", 12), NONE);
        edge("18: just so", pair("u0,0,5,0;u0,0,6,0;", "", 11), 1);
        edge("18: of several by the lower one", pair("u0,0,2,0;u0,0,1,0;u0,0,8,0;u0,0,9,0;", "", 10), 2);
        edge("18: of several then by the other", pair("u0,0,5,0;u0,0,6,0;u0,0,5,0;u0,0,5,0;", "", 10), 2);
        edge("18: the lower one ahead of the other", pair("u0,0,9,0;u0,0,5,0;u0,0,5,0;u0,0,1,0;", "", 10), 3);
        edge("18: the last two of eight", pair(Shops.many("u0,0,1,0;", 6) + "u0,0,9,0;u0,0,8,0;", "", 17), 67);
        edge("18: the first and the last of eight", pair("u0,0,9,0;" + Shops.many("u0,0,1,0;", 6) + "u0,0,8,0;", "", 17), 7);
        edge("18: of two PERSONS", pair("u0,0,5,0;u1,0,6,0;", "", 11), 1);
        edge("18: one in the CELLAR", pair("u0,0,5,0;u0,0,6,0;", "s0 p1", 12), 1);
        edge("18: both in the CELLAR", pair("u0,0,5,0;u0,0,6,0;", "s0 s1 p1", 13), 1);
        edge("18: the lower one GONE", pair("u0,3,2,0;u0,0,6,0;", "s0 p1", 6), NONE);
        edge("18: the other one GONE", pair("u0,0,6,0;u0,3,2,0;", "s1 p1", 6), NONE);
        edge("18: ahead of its being GONE", pair("u0,3,3,0;u0,0,6,0;", "s0 p1", 7), 1);
    }

    private static int swap(String text, String acts, int t) {
        return Shops.laid(text + "x0;s0,0;", acts).swap(t);
    }

    private static void swaps() {
        edge("19: R by whose it was", swap("a0;u0,0,5,7;", "", -1), 7);
        edge("19: it stays with the only one", swap("a0;a0;u0,0,5,7;", "", 0), 0);
        edge("19: one without things gets none", swap("a0;a0;u0,0,5,7;", "", -1), 7);
        edge("19: by half of it, cut, uneven", swap("a0;a0;u0,0,5,7;u1,0,5,9;", "", -1), 7);
        edge("19: by half of it, even", swap("a0;a0;u0,0,5,20;u1,0,5,20;", "", -1), 20);
        edge("19: half of 1 is 0", swap("a0;a0;u0,0,5,1;u1,0,5,1;", "", -1), 0);
        edge("19: R of 0", swap("a0;a0;u0,0,5,0;u1,0,5,0;", "", -1), 0);
        edge("19: of several the first, thing 0", swap("a0;a0;u1,0,5,0;u0,0,5,0;", "", 0), 0);
        edge("19: of several the first, thing 1", swap("a0;a0;u1,0,5,0;u0,0,5,0;", "", 1), 1);
        edge("19: of several the first, though it stays", swap("a0;a0;u0,0,5,0;u1,0,5,0;", "", 0), 0);
        edge("19: changed, thing 0", swap("a0;a0;u0,0,5,1;u1,0,5,1;", "", 0), 1);
        edge("19: changed, thing 1", swap("a0;a0;u0,0,5,1;u1,0,5,1;", "", 1), 0);
        edge("19: in the CELLAR with nobody", swap("a0;a0;u0,0,5,7;u1,0,5,9;", "s0", 0), NONE);
        edge("19: GONE with nobody", swap("a0;a0;u0,3,2,7;u1,0,5,9;", "s0 p1", 0), NONE);
        edge("19: who has none now gets none", swap("a0;a0;u0,0,5,7;u1,0,5,9;", "s0", 1), 1);
        edge("19: the rest in sum", swap("a0;a0;u0,0,5,7;u1,0,5,9;", "s0", -1), 9);
        edge("19: nothing with anybody", swap("a0;u0,0,5,7;", "s0", -1), 0);
        edge("19: nothing with anybody, the thing", swap("a0;u0,0,5,7;", "s0", 0), NONE);
        edge("19: no things", swap("a0;", "", -1), 0);
        edge("19: bought back", swap("a0;a0;u0,0,5,7;u1,0,5,9;", "s0 b0", 0), 1);
        for (int bad : new int[] {-2, 2, LOW, HIGH}) {
            edge("19: thing " + bad, swap("a0;a0;u0,0,5,7;u1,0,5,9;", "", bad), BAD);
        }
        edge("19: thing 0 of none", swap("a0;", "", 0), BAD);
        edge("19: a ninth thing", new ForgoneShop().swap(8), BAD);
    }

    private static void swapsOfMany() {
        String two = "a0;a0;u0,0,5,2;u0,0,5,8;u0,0,5,4;u1,0,5,6;";
        edge("19: as many each as now, in sum", swap(two, "", -1), 2 + 4 + 4 + 3);
        int[] holders = {0, 1, 0, 0};
        for (int t = 0; t < 4; t++) {
            edge("19: as many each as now, thing " + t, swap(two, "", t), holders[t]);
        }
        String three = "a0;a0;a0;u0,0,5,9;u1,0,5,9;u2,0,5,9;";
        int[] round = {1, 2, 0};
        edge("19: three in a round", swap(three, "", -1), 12);
        for (int t = 0; t < 3; t++) {
            edge("19: three in a round, thing " + t, swap(three, "", t), round[t]);
        }
        String five = Shops.many("a0;", 5) + "u0,0,1,20;u0,0,1,20;u1,0,1,20;u1,0,1,20;u2,0,1,20;u2,0,1,20;u3,0,1,20;u4,0,1,20;";
        int[] most = {1, 1, 0, 0, 3, 4, 2, 2};
        edge("19: five with eight things", swap(five, "", -1), 80);
        for (int t = 0; t < 8; t++) {
            edge("19: five with eight things, thing " + t, swap(five, "", t), most[t]);
        }
        String one = "a0;a0;u0,0,1,9;u0,0,1,8;u0,0,1,7;u0,0,1,6;u0,0,1,5;u0,0,1,4;u0,0,1,3;u1,0,1,2;";
        edge("19: one of eight can go", swap(one, "", -1), 4 + 8 + 7 + 6 + 5 + 4 + 3 + 1);
        edge("19: one of eight, the dearest", swap(one, "", 0), 1);
        edge("19: one of eight, what comes for it", swap(one, "", 7), 0);
        edge("19: nothing changes by it", Shops.laid(two).person(0, 2), 7);
    }

    private static ForgoneShop busy() {
        ForgoneShop shop = Shops.laid("a9;a0;u0,0,5,7;u1,3,2,1;u0,1,9,2;u0,0,3,3;s50,4;x1;x2;x3;", "s0 p1 k p1 s2 k");
        shop.see(0, 1, 2);
        Shops.write(shop, "abc");
        return shop;
    }

    private interface Call {
        int on(ForgoneShop shop);
    }

    private static void unchanged(String name, Call call) {
        ForgoneShop shop = busy();
        call.on(shop);
        CHECK.edge(name + " changes nothing", Shops.lookDeep(shop), Shops.lookDeep(busy()));
    }

    private static void nothingChanges() {
        unchanged("13: behind", s -> s.behind(40, 0));
        unchanged("14: heard", s -> s.heard(999));
        unchanged("14: heard at once", s -> s.heard(1));
        unchanged("15: sum", s -> s.sum(0, 5, 0));
        unchanged("16: take", s -> s.take(20, 0));
        unchanged("17: when", s -> s.when(3, 0));
        unchanged("18: pair", s -> s.pair(10));
        unchanged("19: swap", s -> s.swap(-1));
        unchanged("4: fault", s -> s.fault());
        unchanged("22: kinds", s -> s.kinds(0));
        unchanged("23: sure", s -> s.sure(1, 1, 1, 1, 1));
        unchanged("24: fine", s -> s.fine(0, 1));
        unchanged("25: whims", s -> s.whims(3, 8, 5, 5, 1));
        unchanged("26: year", s -> s.year(5, 60, 0));
    }

    public static void main(String[] args) {
        behind();
        heard();
        sums();
        sumsRefused();
        takes();
        whens();
        pairs();
        swaps();
        swapsOfMany();
        nothingChanges();
        CHECK.close();
    }
}
