/** Boundaries of promises 9 to 12, 27 and 28, one test each: sales, days, what is undone, what is kept. */
public final class ActEdges {
    private static final int BAD = -1, NO = -2, FULL = -3;
    private static final int LOW = Integer.MIN_VALUE, HIGH = Integer.MAX_VALUE;
    private static final Check CHECK = new Check();

    private static void edge(String name, long got, long want) {
        CHECK.edge(name, got, want);
    }

    private static int sale(String text, String acts) {
        return Shops.laid(text, acts).sell(0);
    }

    private static void sells() {
        edge("9: NEAR by L", sale("a0;u0,0,5,0;s99,5;", ""), 15);
        edge("9: NEAR by one less than L", sale("a0;u0,0,4,0;s99,5;", ""), NO);
        edge("9: L of 20", sale("a0;u0,0,20,0;s99,20;", ""), 60);
        edge("9: one less than L of 20", sale("a0;u0,0,19,0;s99,20;", ""), NO);
        edge("9: L of 0", sale("a0;u0,0,1,0;s99,0;", ""), 3);
        edge("9: L of 1", sale("a0;u0,0,1,0;s99,1;", ""), 3);
        edge("9: 4 without s", sale("a0;u0,0,4,0;", ""), 12);
        edge("9: 3 without s", sale("a0;u0,0,3,0;", ""), NO);
        edge("9: all the 60 without s", sale("a0;u0,0,20,0;", ""), 60);
        edge("9: the SHOP has as much", sale("a0;u0,0,5,0;s15,0;", ""), 15);
        edge("9: the SHOP has one less", sale("a0;u0,0,5,0;s14,0;", ""), NO);
        edge("9: the SHOP has nothing, for nothing", sale("a0;u0,0,5,0;s0,0;x0;", ""), 0);
        edge("9: the SHOP has nothing", sale("a0;u0,0,1,0;s0,0;x1;", ""), NO);
        edge("9: the SHOP has it no more", sale("a0;u0,0,5,0;u0,0,5,0;s29,0;", "s1"), NO);
        edge("9: the SHOP has just that left", sale("a0;u0,0,5,0;u0,0,5,0;s30,0;", "s1"), 15);
        edge("9: the SHOP spends what it got back", sale("a9;u0,0,5,0;u0,0,5,0;s15,0;", "s1 b1"), 15);
        edge("9: in the CELLAR", sale("a0;u0,0,5,0;s99,0;", "s0"), NO);
        edge("9: in the CELLAR, behind a DAY", sale("a0;u0,0,5,0;s99,0;", "s0 p1"), NO);
        edge("9: GONE", sale("a0;u0,3,2,0;s99,0;", "s0 p1"), NO);
        edge("9: bought back", sale("a0;u0,0,5,0;s99,0;", "s0 b0"), 15);
        edge("9: bought back, NEAR by less than L now", sale("a0;u0,3,5,0;s99,5;", "s0 p1 b0"), NO);
        edge("9: bought back, NEAR by more now", sale("a9;u0,0,5,0;s99,5;", "s0 p1 b0"), 18);
        edge("9: X of the next DAY", sale("a0;u0,0,5,0;s99,0;x1;x2;", "p1"), 10);
        edge("9: X of the first again", sale("a0;u0,0,5,0;s99,0;x1;x2;", "p2"), 5);
        edge("9: a SHAM as well", sale("a0;u0,3,5,0;s99,0;", ""), 15);
        for (int bad : new int[] {-1, 1, LOW, HIGH}) {
            edge("9: sell " + bad, Shops.laid("a0;u0,0,5,0;").sell(bad), BAD);
        }
        edge("9: no things", Shops.laid("a0;").sell(0), BAD);
        edge("9: a ninth thing", new ForgoneShop().sell(8), BAD);
    }

    private static void soldThen() {
        ForgoneShop shop = Shops.laid("a0;a99;u1,0,20,3;u1,0,20,4;s99,0;x4;", "s0");
        edge("9: MONEY beyond 99", shop.person(1, 0), 179);
        edge("9: MONEY of another one", shop.person(0, 0), 0);
        edge("9: MONEY of the SHOP", shop.count(2), 19);
        edge("9: in the CELLAR then", shop.thing(0, 4), 1);
        edge("9: the other thing is not", shop.thing(1, 4), 0);
        edge("9: NEAR as it was", shop.thing(0, 2), 20);
        edge("9: the same DAY", shop.count(4), 0);
        edge("9: no RUE yet", shop.person(1, 1), 0);
        edge("9: it can be undone", shop.count(9), 1);
        edge("9: the SHOP can have 0", Shops.laid("a0;u0,0,5,0;s15,0;", "s0").count(2), 0);
    }

    private static int backFor(String text, String acts) {
        return Shops.laid(text, acts).buyBack(0);
    }

    private static void buysBack() {
        edge("10: just as much MONEY", backFor("a1;u0,0,5,0;x1;", "s0 p1"), 6);
        edge("10: one too little", backFor("a0;u0,0,5,0;x1;", "s0 p1"), NO);
        edge("10: on the same DAY", backFor("a0;u0,0,5,0;x1;", "s0"), 5);
        edge("10: with nothing, for nothing", backFor("a0;u0,0,5,0;x0;", "s0"), 0);
        edge("10: with nothing, for something", backFor("a0;u0,0,5,0;x0;x1;", "s0 p1"), NO);
        edge("10: at first with its PERSON", backFor("a99;u0,0,5,0;", ""), NO);
        edge("10: with its PERSON again", backFor("a99;u0,0,5,0;", "s0 b0"), NO);
        edge("10: GONE", backFor("a99;u0,3,5,0;", "s0 p3"), NO);
        edge("10: NEAR by less than L", backFor("a99;u0,3,5,0;s99,5;x1;", "s0 p1"), 3);
        edge("10: the last DAY of a SHAM", backFor("a99;u0,3,5,0;x1;", "s0 p2"), 1);
        edge("10: MONEY of another one does not help", backFor("a0;a99;u0,0,5,0;x1;", "s0 p1"), NO);
        edge("10: the SHOP may have beyond 99", backFor("a99;u0,0,10,0;s99,0;x0;x9;", "s0 p1"), 99);
        edge("10: X of the first again", backFor("a9;u0,0,5,0;x1;x2;", "s0 p2"), 7);
        for (int bad : new int[] {-1, 1, LOW, HIGH}) {
            edge("10: buyBack " + bad, Shops.laid("a0;u0,0,5,0;").buyBack(bad), BAD);
        }
        edge("10: no things", Shops.laid("a0;").buyBack(0), BAD);
        edge("10: a ninth thing", new ForgoneShop().buyBack(8), BAD);
    }

    private static void boughtBackThen() {
        ForgoneShop shop = Shops.laid("a5;a9;u0,0,5,3;u1,0,5,4;s99,0;x1;", "s0 s1 p2 b0");
        edge("10: MONEY", shop.person(0, 0), 3);
        edge("10: MONEY of another one", shop.person(1, 0), 14);
        edge("10: MONEY of the SHOP", shop.count(2), 96);
        edge("10: with its PERSON", shop.thing(0, 4), 0);
        edge("10: among what is with it", shop.person(0, 2), 1);
        edge("10: the other thing is in the CELLAR", shop.thing(1, 4), 1);
        edge("10: as NEAR as it went on", shop.thing(0, 2), 7);
        edge("10: it can be undone", shop.count(9), 4);
        shop.pass(5);
        edge("10: it goes on no more", shop.thing(0, 2), 7);
        edge("10: it is RUED no more", shop.person(0, 1), 6);
        edge("10: the other is RUED", shop.person(1, 1), 28);
        edge("10: MONEY can be 0", Shops.laid("a1;u0,0,5,0;x1;", "s0 p1 b0").person(0, 0), 0);
        edge("10: the SHOP with more than 99", Shops.laid("a99;u0,0,10,0;s99,0;x0;x9;", "s0 p1 b0").count(2), 198);
    }

    private static void passes() {
        edge("11: 1 DAY", new ForgoneShop().pass(1), 1);
        edge("11: 24 DAYS", new ForgoneShop().pass(24), 24);
        edge("11: in all", Shops.laid("a0;", "p24").pass(1), 25);
        for (int bad : new int[] {0, -1, 25, LOW, HIGH}) {
            edge("11: pass " + bad, new ForgoneShop().pass(bad), BAD);
        }
        for (int kind = 0; kind < 4; kind++) {
            edge("11: with its PERSON, KIND " + kind, near(kind, 7, "p24"), 7);
        }
        String all = "a9;a1;u0,0,5,1;u1,1,5,2;u0,2,5,3;u1,3,5,4;s99,0;x1;x2;x3;";
        CHECK.edge("11: DAYS at one time are as one by one", Shops.stand(Shops.laid(all, "s0 s1 s2 s3 p5")),
            Shops.stand(Shops.laid(all, "s0 s1 s2 s3 p1 p1 p1 p1 p1")));
        ForgoneShop shop = new ForgoneShop();
        for (int i = 0; i < 500; i++) {
            shop.pass(24);
        }
        edge("11: DAYS without end", shop.count(4), 12000);
    }

    /** How near a thing of that kind is after some acts; it can be sold for nothing. */
    private static int near(int kind, int near, String acts) {
        return Shops.laid("a0;u0," + kind + "," + near + ",0;s0,0;x0;", acts).thing(0, 2);
    }

    private static int place(int kind, int near, String acts) {
        return Shops.laid("a0;u0," + kind + "," + near + ",0;s0,0;x0;", acts).thing(0, 4);
    }

    private static void goOn() {
        edge("11: PLAIN by 1", near(0, 5, "s0 p1"), 6);
        edge("11: PLAIN to 98", near(0, 20, "s0 p24 p24 p24 p6"), 98);
        edge("11: PLAIN to 99", near(0, 20, "s0 p24 p24 p24 p7"), 99);
        edge("11: PLAIN 99 at most", near(0, 20, "s0 p24 p24 p24 p8"), 99);
        edge("11: GROWING by 2", near(1, 5, "s0 p1"), 7);
        edge("11: GROWING to 98", near(1, 20, "s0 p24 p15"), 98);
        edge("11: GROWING 99 at most, from 98", near(1, 20, "s0 p24 p16"), 99);
        edge("11: GROWING to 97", near(1, 19, "s0 p24 p15"), 97);
        edge("11: GROWING to 99, from 97", near(1, 19, "s0 p24 p16"), 99);
        edge("11: GROWING 99 at most, from 99", near(1, 19, "s0 p24 p17"), 99);
        edge("11: FADING not on DAY 0", near(2, 5, "s0 p1"), 5);
        edge("11: FADING by 1 on DAY 1", near(2, 5, "s0 p2"), 4);
        edge("11: FADING not on DAY 2", near(2, 5, "s0 p3"), 4);
        edge("11: FADING by 1 on DAY 3", near(2, 5, "s0 p4"), 3);
        edge("11: FADING in the CELLAR from DAY 1 on", near(2, 5, "p1 s0 p1"), 4);
        edge("11: FADING in the CELLAR from DAY 2 on", near(2, 5, "p2 s0 p1"), 5);
        edge("11: FADING from 1 stays on DAY 0", place(2, 1, "s0 p1"), 1);
        edge("11: FADING from 1 is GONE by DAY 1", place(2, 1, "s0 p2"), 2);
        edge("11: FADING GONE is NEAR by 0", near(2, 1, "s0 p4"), 0);
        edge("11: SHAM by 2", near(3, 5, "s0 p1"), 3);
        edge("11: SHAM by 2 on an uneven DAY", near(3, 5, "p1 s0 p1"), 3);
        edge("11: SHAM from 3 stays", place(3, 3, "s0 p1"), 1);
        edge("11: SHAM from 3 to 1", near(3, 3, "s0 p1"), 1);
        edge("11: SHAM from 2 is GONE", place(3, 2, "s0 p1"), 2);
        edge("11: SHAM from 1 is GONE", place(3, 1, "s0 p1"), 2);
        edge("11: SHAM from 1 is NEAR by 0 then", near(3, 1, "s0 p1"), 0);
        edge("11: GONE is NEAR by 0 behind more DAYS", near(3, 1, "s0 p24"), 0);
        edge("11: GONE stays GONE", place(3, 1, "s0 p24"), 2);
        edge("11: SHAM of 20 on its last DAY", near(3, 19, "s0 p9"), 1);
    }

    private static int rue(String text, String acts) {
        return Shops.laid(text, acts).person(0, 1);
    }

    private static void rues() {
        edge("11: at first no RUE", rue("a0;u0,0,5,7;", ""), 0);
        edge("11: none of what is with it", rue("a0;u0,0,5,7;", "p9"), 0);
        edge("11: none on the DAY of the sale yet", rue("a0;u0,0,5,7;", "s0"), 0);
        edge("11: by R a DAY", rue("a0;u0,0,5,7;", "s0 p1"), 7);
        edge("11: each DAY", rue("a0;u0,0,5,7;", "s0 p24"), 168);
        edge("11: R of 0", rue("a0;u0,0,5,0;", "s0 p24"), 0);
        edge("11: R of 20", rue("a0;u0,0,5,20;", "s0 p2"), 40);
        edge("11: the DAY on which it is GONE", rue("a0;u0,3,2,7;s9,0;", "s0 p1"), 7);
        edge("11: GONE things, too", rue("a0;u0,3,2,7;s9,0;", "s0 p5"), 35);
        edge("11: things in sum", rue("a0;u0,0,5,7;u0,1,5,3;u0,2,5,1;s99,0;", "s0 s1 p2"), 20);
        edge("11: not things of another one", rue("a0;a0;u1,0,5,7;", "s0 p2"), 0);
        edge("11: from the sale on", rue("a0;u0,0,5,7;", "p3 s0 p2"), 14);
        edge("11: to the buying back", rue("a9;u0,0,5,7;", "s0 p1 b0 p3"), 7);
        edge("11: sold again", rue("a9;u0,0,5,7;", "s0 p1 b0 p3 s0 p2"), 21);
    }

    private static int undo(String acts) {
        return Shops.laid("a9;u0,0,5,7;u0,3,2,1;s50,0;", acts).undo();
    }

    private static void undoes() {
        edge("12: nothing has been done", undo(""), NO);
        edge("12: a sale", undo("s0"), 0);
        edge("12: a buying back", undo("s0 b0"), 1);
        edge("12: a DAY", undo("p1"), 0);
        edge("12: DAYS at one time are one", undo("p24"), 0);
        edge("12: DAYS one by one are several", undo("p1 p1"), 1);
        edge("12: all are undone", undo("s0 p1 u u"), NO);
        edge("12: 8 acts", undo("p1 p1 p1 p1 p1 p1 p1 p1"), 7);
        edge("12: 9 acts, 8 at most", undo("p1 p1 p1 p1 p1 p1 p1 p1 p1"), 7);
        edge("12: the 8th of 9", undo("p1 p1 p1 p1 p1 p1 p1 p1 p1 u u u u u u u"), 0);
        edge("12: the first of 9 no more", undo("p1 p1 p1 p1 p1 p1 p1 p1 p1 u u u u u u u u"), NO);
        edge("12: an act behind one that is undone", undo("s0 u p1"), 0);
        edge("12: keep is none", undo("k"), NO);
        edge("12: behind back nothing is", undo("s0 k s1 r"), NO);
        edge("12: behind back, then an act", undo("s0 k s1 r p1"), 0);
        ForgoneShop shop = new ForgoneShop();
        for (int i = 0; i < 21; i++) {
            shop.pass(1);
        }
        edge("12: the latest 8 of many", Shops.does(shop, "u u u u u u u u").count(4), 13);
        edge("12: the one before the latest is DAY by DAY", Shops.laid("a0;", "p1 p2 p3 u").count(4), 3);
        ForgoneShop refused = Shops.laid("a9;u0,0,5,7;u0,3,2,1;s50,0;", "s0 u");
        refused.buyBack(0);
        refused.sell(9);
        refused.pass(25);
        edge("12: what can not be done is not undone", refused.undo(), NO);
        edge("12: a text that is laid is not undone", Shops.laid("a9;", "").undo(), NO);
    }

    private static void undoneThen() {
        String text = "a9;a0;u0,0,5,7;u1,3,2,1;u0,1,9,2;s50,0;x1;x2;x3;";
        String[] before = {"", "s0", "s0 p1", "s0 s1 p1 p3", "s0 p3 s2", "s0 p24"};
        String[] acts = {"s0", "s1", "b0", "p24", "p1", "p1"};
        for (int i = 0; i < acts.length; i++) {
            ForgoneShop shop = Shops.laid(text, before[i] + " " + acts[i] + " u");
            CHECK.edge("12: all as it was ahead of " + acts[i] + " behind " + before[i], Shops.look(shop),
                Shops.look(Shops.laid(text, before[i])));
        }
        ForgoneShop gone = Shops.laid(text, "s1 p1 u");
        edge("12: GONE no more", gone.thing(1, 4), 1);
        edge("12: as NEAR as it was", gone.thing(1, 2), 2);
        ForgoneShop shop = Shops.laid(text, "s0 k p1");
        shop.see(0, 1, 2);
        Shops.write(shop, "abc");
        shop.undo();
        edge("12: KEPT stays", shop.count(10), 1);
        edge("12: SEEN stays", shop.count(8), 1);
        edge("12: the text stays", shop.count(11), 3);
        ForgoneShop all = Shops.laid("a0;" + Shops.many("u0,0,1,1;", 8) + "s99,0;", "s0 s1 s2 s3 s4 s5 s6 s7 u u u u u u u u");
        edge("12: eight sales undone, things", all.person(0, 2), 255);
        edge("12: eight sales undone, MONEY", all.count(2), 99);
    }

    private static void keeps() {
        edge("27: the first", new ForgoneShop().keep(), 1);
        edge("27: the second", Shops.laid("a0;", "k").keep(), 2);
        edge("27: a third", Shops.laid("a0;", "k k").keep(), FULL);
        edge("27: still two", afterFull().count(10), 2);
        edge("27: the first two stay, the second", Shops.does(afterFull(), "r").count(4), 2);
        edge("27: the first two stay, the first", Shops.does(afterFull(), "r r").count(4), 1);
        edge("27: behind back there is room again", Shops.laid("a0;", "k k r").keep(), 2);
        edge("27: behind lay there is room again", relaid().keep(), 1);
        edge("27: all that was done can be undone still", Shops.laid("a0;", "p1 k").undo(), 0);
    }

    /** Kept on days 1 and 2, refused on day 3. */
    private static ForgoneShop afterFull() {
        ForgoneShop shop = Shops.laid("a0;", "p1 k p1 k p1");
        shop.keep();
        return shop;
    }

    private static ForgoneShop relaid() {
        ForgoneShop shop = Shops.laid("a0;", "k k");
        Shops.write(shop, "a1;");
        shop.lay();
        return shop;
    }

    private static void backs() {
        edge("28: nothing is KEPT", new ForgoneShop().back(), NO);
        edge("28: one of one", Shops.laid("a0;", "k").back(), 0);
        edge("28: one of two", Shops.laid("a0;", "k k").back(), 1);
        edge("28: it is KEPT no more", Shops.laid("a0;", "k r").back(), NO);
        edge("28: nothing behind lay", relaid().back(), NO);
        edge("28: the last first", Shops.laid("a0;", "k p1 k p1 r").count(4), 1);
        edge("28: then the first", Shops.laid("a0;", "k p1 k p1 r r").count(4), 0);
        edge("28: nothing is UNDONE then", Shops.laid("a0;", "p1 k p1 r").count(9), 0);
        edge("28: nor when nothing has changed", Shops.laid("a0;", "p1 k r").count(9), 0);
        String text = "a9;a0;u0,0,5,7;u1,3,2,1;u0,1,9,2;s50,0;x1;x2;x3;";
        CHECK.edge("28: all as it stood", Shops.stand(Shops.laid(text, "s0 s1 p3 k b0 s2 p24 r")),
            Shops.stand(Shops.laid(text, "s0 s1 p3")));
        CHECK.edge("28: all as it stood, though undone ahead of it", Shops.stand(Shops.laid(text, "s0 k u p5 r")),
            Shops.stand(Shops.laid(text, "s0")));
        ForgoneShop shop = Shops.laid(text, "s0 k p1");
        shop.see(0, 0, 2);
        Shops.write(shop, "abc");
        shop.back();
        edge("28: SEEN stays", shop.count(8), 1);
        edge("28: what is SEEN stays", shop.kinds(0), 0);
        edge("28: the text stays", shop.count(11), 3);
        ForgoneShop empty = Shops.laid(text, "k");
        empty.see(0, 0, 2);
        empty.forget();
        empty.back();
        edge("28: what was forgotten stays so", empty.count(8), 0);
        ForgoneShop none = Shops.laid(text, "s0 p1");
        none.back();
        edge("28: with nothing KEPT what was done can be undone", none.count(9), 2);
        edge("28: the other one KEPT stays as it was", Shops.laid(text, "p1 k p1 k p5 r p7 k p9 r r").count(4), 1);
    }

    private static ForgoneShop busy() {
        ForgoneShop shop = Shops.laid("a9;a0;u0,0,5,7;u1,3,2,1;u0,1,9,2;u0,0,3,3;s50,4;x1;x2;x3;", "s0 p1 k p1 s2 k");
        shop.see(0, 1, 2);
        Shops.write(shop, "abc");
        return shop;
    }

    private interface Call {
        int on(ForgoneShop shop);
    }

    /** A refused call leaves all as it was, what can be undone and what is kept, too. */
    private static void refused(String name, Call call, int why) {
        ForgoneShop shop = busy();
        edge(name + " is refused", call.on(shop), why);
        CHECK.edge(name + " changes nothing", Shops.lookDeep(shop), Shops.lookDeep(busy()));
    }

    private static void refusals() {
        refused("9: sell what is in the CELLAR", s -> s.sell(0), NO);
        refused("9: sell what is not NEAR enough", s -> s.sell(3), NO);
        refused("9: sell what is not", s -> s.sell(4), BAD);
        refused("10: buy back what is with its PERSON", s -> s.buyBack(1), NO);
        refused("10: buy back what is not", s -> s.buyBack(-1), BAD);
        refused("11: pass 0", s -> s.pass(0), BAD);
        refused("11: pass 25", s -> s.pass(25), BAD);
        refused("27: keep one too many", s -> s.keep(), FULL);
        refused("5: lay a text with a fault", s -> s.lay(), NO);
        refused("2: write what is no letter", s -> s.write(127), BAD);
        refused("20: see what is not", s -> s.see(4, 0, 0), BAD);
    }

    public static void main(String[] args) {
        sells();
        soldThen();
        buysBack();
        boughtBackThen();
        passes();
        goOn();
        rues();
        undoes();
        undoneThen();
        keeps();
        backs();
        refusals();
        CHECK.close();
    }
}
