/** Boundaries of promises 1 to 8 and 29, one test each: texts, what they tell, what is told of it. */
public final class TextEdges {
    private static final int BAD = -1, NO = -2, FULL = -3, NONE = -4;
    private static final int LOW = Integer.MIN_VALUE, HIGH = Integer.MAX_VALUE;
    private static final Check CHECK = new Check();

    private static void edge(String name, long got, long want) {
        CHECK.edge(name, got, want);
    }

    private static void newObject() {
        ForgoneShop shop = new ForgoneShop();
        edge("1: a new object has no letters", shop.count(11), 0);
        edge("1: its text can not be laid", shop.lay(), NO);
        edge("1: its text has no fault", shop.fault(), NONE);
        CHECK.edge("1: it stands as if the first text were laid", Shops.look(shop), Shops.look(Shops.laid(Shops.FIRST)));
        edge("1: two objects are two shops", Shops.laid(Shops.FIRST, "s0 p1").count(4) + new ForgoneShop().count(4), 1);
    }

    private static void write() {
        int[] bad = {31, 127, 0, -1, 128, 255, 256 + 'a', 65536 + 'a', 'a' - 65536, LOW, HIGH};
        for (int letter : bad) {
            edge("2: write " + letter + " is BAD", new ForgoneShop().write(letter), BAD);
        }
        edge("2: write 32, the least letter", new ForgoneShop().write(32), 1);
        edge("2: write 33", new ForgoneShop().write(33), 1);
        edge("2: write 125", new ForgoneShop().write(125), 1);
        edge("2: write 126, the last letter", new ForgoneShop().write(126), 1);
        edge("2: the second letter", Shops.written("a").write('a'), 2);
        edge("2: a BAD one is no letter", afterBad("ab").count(11), 2);
        edge("2: a letter behind a BAD one", afterBad("ab").write('c'), 3);
        edge("2: the 199th letter", Shops.written(Shops.many("a", 198)).write('a'), 199);
        edge("2: the 200th letter", Shops.written(Shops.many("a", 199)).write('a'), 200);
        edge("2: the 201st letter", Shops.written(Shops.many("a", 200)).write('a'), FULL);
        edge("2: BAD ahead of FULL", Shops.written(Shops.many("a", 200)).write(31), BAD);
        edge("2: none comes behind a full text", overfull().count(11), 200);
        edge("2: a full text stays as it was", overfull().fault(), 195);
        edge("2: a text is full again and again", overfull().write('b'), FULL);
        edge("2: behind wipe there is room again", wiped(overfull()).write('b'), 1);
    }

    private static ForgoneShop afterBad(String text) {
        ForgoneShop shop = Shops.written(text);
        shop.write(127);
        return shop;
    }

    /** A full text with a fault in the last item, and letters refused behind it. */
    private static ForgoneShop overfull() {
        ForgoneShop shop = Shops.written(Shops.many("s1,2;", 39) + "s1,2,");
        shop.write('3');
        shop.write(';');
        return shop;
    }

    private static ForgoneShop wiped(ForgoneShop shop) {
        shop.wipe();
        return shop;
    }

    private static void wipe() {
        edge("3: wipe an empty text", new ForgoneShop().wipe(), 0);
        edge("3: wipe one letter", Shops.written("a").wipe(), 1);
        edge("3: wipe a full text", Shops.written(Shops.many("a", 200)).wipe(), 200);
        edge("3: wipe again", wiped(Shops.written("abc")).wipe(), 0);
        edge("3: no letters then", wiped(Shops.written("abc")).count(11), 0);
        edge("3: no fault then", wiped(Shops.written("abc")).fault(), NONE);
        ForgoneShop shop = Shops.laid("a9;u0,1,5,2;s50,0;", "s0 p1 k");
        shop.see(0, 1, 2);
        String was = Shops.look(shop);
        Shops.write(shop, "b");
        shop.wipe();
        CHECK.edge("3: all else stays", Shops.look(shop), was);
    }

    private static void fault(String why, String text, int want) {
        edge("4: " + why + ": " + text, Shops.faultOf(text), want);
    }

    private static void forms() {
        fault("an empty text", "", NONE);
        fault("a figure in front", "1", 0);
        fault("a letter alone", "a", 0);
        fault("no number", "a;", 0);
        fault("no ; behind it", "a1", 0);
        fault("no ; behind the last one", "a1;a22", 3);
        fault("one figure", "a1;", NONE);
        fault("two figures", "a12;", NONE);
        fault("three figures", "a123;", 0);
        fault("three figures, the first 0", "a012;", 0);
        fault("two figures, the first 0", "a01;", NONE);
        fault("three figures of X, the first 0", "a1;x009;", 3);
        fault("a number too many", "a1,2;", 0);
        fault("an empty number behind ,", "a1,;", 0);
        fault("an empty number ahead of ,", "a,1;", 0);
        fault("nothing behind ,", "s1,", 0);
        fault("a blank ahead of a number", "a 1;", 0);
        fault("a blank behind a number", "a1 ;", 0);
        fault("a blank between two items", "a1; a1;", 3);
        fault("a blank behind all", "a1; ", 3);
        fault("a sign ahead of a number", "a-1;", 0);
        fault("a plus ahead of a number", "a+1;", 0);
        fault("two ;", "a1;;", 3);
        fault("a ; alone", ";", 0);
        fault("a , for a ;", "a1,a2;", 0);
        fault("a : for a ;", "a1:", 0);
        fault("a . for a ,", "s1.2;", 0);
        fault("a letter in a number", "a1b;", 0);
        fault("a large letter", "A1;", 0);
        fault("another letter", "b1;", 0);
        fault("two letters", "aa1;", 0);
        fault("no letter ahead of numbers", "a1;5;", 3);
        fault("what comes ahead of 0 in ASCII", "a/;", 0);
        fault("what comes behind 9 in ASCII", "a:;", 0);
        fault("the same as the second figure", "a1/;", 0);
        fault("the same as the second figure", "a1:;", 0);
        fault("the least letter", " ", 0);
        fault("the last letter", "~1;", 0);
    }

    private static void faultPlaces() {
        fault("of two the first", "a1;b;c;", 3);
        fault("the first letter of it, not where it goes wrong", "a1;u0,0,5,21;", 3);
        fault("behind sound ones", "a1;x1;s1,1;u0,0,5,5;q", 20);
        fault("not so for what comes only behind it", "u0,0,5,5;a1;", 0);
        fault("sound ones behind it do not help", "b;a1;", 0);
        edge("4: a full text without fault", Shops.faultOf(fullText()), NONE);
        edge("4: a full text, its last ; wrong", Shops.faultOf(fullText().substring(0, 199) + ","), 195);
        edge("4: an item that the full text cuts", Shops.faultOf(Shops.many("a1;", 1) + Shops.many("s1,1;", 39) + "s1"), 198);
        ForgoneShop shop = Shops.laid("a9;u0,1,5,2;s50,0;", "s0 p1 k");
        shop.see(0, 1, 2);
        Shops.write(shop, "a9;a9;q");
        String was = Shops.look(shop);
        shop.fault();
        CHECK.edge("4: fault changes nothing", Shops.look(shop), was);
        shop.wipe();
        edge("4: the fault goes with the text", shop.fault(), NONE);
    }

    /** 200 letters without a fault. */
    private static String fullText() {
        return "a10;a1;x1;" + Shops.many("s1,1;", 38);
    }

    private static void faultsOfPersonsAndThings() {
        fault("0 of MONEY", "a0;", NONE);
        fault("99 of MONEY", "a99;", NONE);
        fault("100 of MONEY", "a100;", 0);
        fault("5 PERSONS", Shops.many("a1;", 5), NONE);
        fault("6 PERSONS", Shops.many("a1;", 6), 15);
        fault("the last of 5 PERSONS", Shops.many("a1;", 5) + "u4,0,5,5;", NONE);
        fault("one behind the last of 5 PERSONS", Shops.many("a1;", 5) + "u5,0,5,5;", 15);
        fault("PERSON 0 of none", "u0,0,5,5;", 0);
        fault("the only PERSON", "a1;u0,0,5,5;", NONE);
        fault("one behind the only PERSON", "a1;u1,0,5,5;", 3);
        fault("a PERSON told behind it", "a1;u1,0,5,5;a1;", 3);
        fault("a PERSON told just ahead", "a1;a1;u1,0,5,5;", NONE);
        fault("PERSON 99", "a1;u99,0,5,5;", 3);
        fault("KIND 0", "a1;u0,0,5,5;", NONE);
        fault("KIND 3", "a1;u0,3,5,5;", NONE);
        fault("KIND 4", "a1;u0,4,5,5;", 3);
        fault("NEAR by 0", "a1;u0,0,0,5;", 3);
        fault("NEAR by 1", "a1;u0,0,1,5;", NONE);
        fault("NEAR by 20", "a1;u0,0,20,5;", NONE);
        fault("NEAR by 21", "a1;u0,0,21,5;", 3);
        fault("RUED by 0", "a1;u0,0,5,0;", NONE);
        fault("RUED by 20", "a1;u0,0,5,20;", NONE);
        fault("RUED by 21", "a1;u0,0,5,21;", 3);
        fault("three numbers of a thing", "a1;u0,0,5;", 3);
        fault("five numbers of a thing", "a1;u0,0,5,5,5;", 3);
        fault("8 things", "a1;" + Shops.many("u0,0,5,5;", 8), NONE);
        fault("9 things", "a1;" + Shops.many("u0,0,5,5;", 9), 75);
    }

    private static void faultsOfTheShop() {
        fault("X of 0", "x0;", NONE);
        fault("X of 9", "x9;", NONE);
        fault("X of 09", "x09;", NONE);
        fault("X of 10", "x10;", 0);
        fault("two numbers of X", "x1,1;", 0);
        fault("12 of X", Shops.many("x1;", 12), NONE);
        fault("13 of X", Shops.many("x1;", 13), 36);
        fault("the SHOP with 0", "s0,5;", NONE);
        fault("the SHOP with 99", "s99,5;", NONE);
        fault("the SHOP with 100", "s100,5;", 0);
        fault("L of 0", "s5,0;", NONE);
        fault("L of 20", "s5,20;", NONE);
        fault("L of 21", "s5,21;", 0);
        fault("no L", "s5;", 0);
        fault("three numbers of the SHOP", "s5,5,5;", 0);
        fault("several of the SHOP", "s5,5;s6,6;", NONE);
        fault("of several of the SHOP not the last is wrong", "s5,21;s6,6;", 0);
        fault("of several of the SHOP the last is wrong", "s5,5;s6,21;", 5);
        fault("the SHOP ahead of PERSONS", "s5,5;x1;a1;", NONE);
    }

    private static int lay(String text) {
        return Shops.written(text).lay();
    }

    private static void lays() {
        edge("5: an empty text is not laid", lay(""), NO);
        edge("5: a text without PERSON is not laid", lay("x1;s5,5;"), NO);
        edge("5: a text with a fault is not laid", lay("a1;b"), NO);
        edge("5: a fault behind PERSONS", lay("a1;a1;u0,0,0,0;"), NO);
        edge("5: one PERSON is laid", lay("a0;"), 1);
        edge("5: five PERSONS are laid", lay(Shops.many("a0;", 5)), 5);
        edge("5: six PERSONS are not", lay(Shops.many("a0;", 6)), NO);
        edge("5: a PERSON behind all else", lay("x1;s5,5;a0;"), 1);
        edge("5: a full text is laid", lay(fullText()), 2);
        for (String text : new String[] {"", "x1;s5,5;", "a1;b", "b"}) {
            refused(text);
        }
        ForgoneShop shop = Shops.written("a7;u0,1,5,2;s50,0;");
        shop.lay();
        edge("5: the text stays", shop.count(11), 18);
        edge("5: it is laid again", shop.lay(), 1);
    }

    private static void refused(String text) {
        ForgoneShop shop = Shops.laid("a9;u0,1,5,2;s50,0;", "s0 p1 k b0");
        shop.see(0, 1, 2);
        Shops.write(shop, text);
        String was = Shops.look(shop);
        shop.lay();
        CHECK.edge("5: all stays as it was behind " + text, Shops.look(shop), was);
    }

    private static ForgoneShop laidAnew() {
        ForgoneShop shop = Shops.laid("a9;u0,1,5,2;s50,0;", "s0 p1 k b0");
        shop.see(0, 1, 2);
        Shops.write(shop, "a7;a8;u1,2,3,4;");
        shop.lay();
        return shop;
    }

    private static void laysAnew() {
        edge("5: DAY 0", laidAnew().count(4), 0);
        edge("5: nothing SEEN", laidAnew().count(8), 0);
        edge("5: nothing UNDONE", laidAnew().count(9), 0);
        edge("5: nothing can be undone", laidAnew().undo(), NO);
        edge("5: nothing KEPT", laidAnew().count(10), 0);
        edge("5: nothing to go back to", laidAnew().back(), NO);
        edge("5: no RUE", laidAnew().person(0, 1), 0);
        edge("5: nothing in the CELLAR", laidAnew().count(5), 0);
        edge("5: 60 without s", laidAnew().count(2), 60);
        edge("5: 4 without s", laidAnew().count(3), 4);
        edge("5: 3 without x", laidAnew().pays(0), 3);
        edge("5: 3 always without x", laidAnew().pays(99), 3);
        edge("5: as many things", laidAnew().count(1), 1);
        edge("5: as many PERSONS", laidAnew().count(0), 2);
        ForgoneShop shop = Shops.laid("a1;s1,1;s22,3;a2;s33,4;");
        edge("5: of several SHOPS the last one's MONEY", shop.count(2), 33);
        edge("5: of several SHOPS the last one's L", shop.count(3), 4);
        edge("5: things of PERSONS told in between", Shops.laid("a1;u0,0,1,1;a1;u1,0,2,2;u0,0,3,3;").person(0, 2), 5);
        edge("5: a number with 0 in front", Shops.laid("a07;").person(0, 0), 7);
    }

    private static void persons() {
        ForgoneShop shop = Shops.laid("a0;a99;u0,0,5,20;u1,0,5,0;u0,0,5,1;s99,0;x1;");
        edge("6: MONEY of 0", shop.person(0, 0), 0);
        edge("6: MONEY of 99", shop.person(1, 0), 99);
        edge("6: things, as bits", shop.person(0, 2), 5);
        edge("6: PERSON -1", shop.person(-1, 0), BAD);
        edge("6: one behind the last PERSON", shop.person(2, 0), BAD);
        edge("6: the least PERSON", shop.person(LOW, 0), BAD);
        edge("6: the most PERSON", shop.person(HIGH, 0), BAD);
        edge("6: what -1", shop.person(0, -1), BAD);
        edge("6: what 3", shop.person(0, 3), BAD);
        edge("6: the least what", shop.person(0, LOW), BAD);
        edge("6: the most what", shop.person(0, HIGH), BAD);
        edge("6: the last of five PERSONS", Shops.laid("a1;a1;a1;a1;a9;").person(4, 0), 9);
        edge("6: a sixth PERSON", Shops.laid("a1;a1;a1;a1;a9;").person(5, 0), BAD);
        edge("6: nothing is with one without things", Shops.laid("a1;").person(0, 2), 0);
        edge("6: all eight", Shops.laid("a1;" + Shops.many("u0,0,5,0;", 8)).person(0, 2), 255);
        edge("6: not what is in the CELLAR", Shops.does(shop, "s0").person(0, 2), 4);
        edge("6: not what is GONE", Shops.laid("a1;u0,3,1,0;s9,0;", "s0 p1").person(0, 2), 0);
        edge("6: MONEY has no bound", Shops.laid("a99;u0,0,20,0;s99,0;x4;", "s0").person(0, 0), 179);
    }

    private static void things() {
        String text = "a1;a1;u1,3,20,20;u0,0,1,0;x9;s99,0;";
        int[] last = {0, 0, 1, 0, 0, 9};
        int[] first = {1, 3, 20, 20, 0, 180};
        for (int what = 0; what < 6; what++) {
            edge("7: most told, what " + what, Shops.laid(text).thing(0, what), first[what]);
            edge("7: least told, what " + what, Shops.laid(text).thing(1, what), last[what]);
        }
        for (int bad : new int[] {-1, 2, LOW, HIGH}) {
            edge("7: thing " + bad, Shops.laid(text).thing(bad, 0), BAD);
        }
        for (int bad : new int[] {-1, 6, LOW, HIGH}) {
            edge("7: what " + bad, Shops.laid(text).thing(0, bad), BAD);
        }
        edge("7: no things", Shops.laid("a1;").thing(0, 0), BAD);
        edge("7: the last of eight", new ForgoneShop().thing(7, 0), 3);
        edge("7: a ninth", new ForgoneShop().thing(8, 0), BAD);
        edge("7: 1 in the CELLAR", Shops.laid(text, "s1").thing(1, 4), 1);
        edge("7: 0 when bought back", Shops.laid(text, "s1 b1").thing(1, 4), 0);
        edge("7: whose it is in the CELLAR", Shops.laid("a1;a1;u1,0,5,0;", "s0").thing(0, 0), 1);
        int[] gone = {0, 3, 0, 7, 2, 0};
        for (int what = 0; what < 6; what++) {
            edge("7: GONE, what " + what, Shops.laid("a1;u0,3,2,7;s9,0;", "s0 p1").thing(0, what), gone[what]);
        }
        edge("7: PRICE on a DAY of 0", Shops.laid("a1;u0,0,5,0;x0;").thing(0, 5), 0);
        edge("7: PRICE behind the last X", Shops.laid("a1;u0,0,5,0;x2;x3;", "p2").thing(0, 5), 10);
        edge("7: PRICE in the CELLAR", Shops.laid("a1;u0,1,5,0;x2;x3;", "s0 p1").thing(0, 5), 21);
    }

    private static void pays() {
        String twelve = "a1;x0;x1;x2;x3;x4;x5;x6;x7;x8;x9;x8;x7;";
        edge("8: this DAY", Shops.laid(twelve).pays(0), 0);
        edge("8: the last X", Shops.laid(twelve).pays(11), 7);
        edge("8: behind the last X the first again", Shops.laid(twelve).pays(12), 0);
        edge("8: behind the last X, then the next", Shops.laid(twelve).pays(13), 1);
        edge("8: 98", Shops.laid(twelve).pays(98), 2);
        edge("8: 99", Shops.laid(twelve).pays(99), 3);
        edge("8: the first DAY's last X", Shops.laid(twelve, "p11").pays(0), 7);
        edge("8: the first DAY behind the last X", Shops.laid(twelve, "p11").pays(1), 0);
        edge("8: 99 from then on", Shops.laid(twelve, "p11").pays(99), 2);
        edge("8: one X for every DAY", Shops.laid("a1;x9;", "p7").pays(99), 9);
        edge("8: 3 without X", Shops.laid("a1;", "p7").pays(99), 3);
        for (int bad : new int[] {-1, 100, LOW, HIGH}) {
            edge("8: pays " + bad, Shops.laid(twelve).pays(bad), BAD);
        }
        ForgoneShop shop = Shops.laid("a1;x1;x2;x3;x4;x5;x6;x7;");
        for (int i = 0; i < 400; i++) {
            shop.pass(24);
        }
        edge("8: X far on, DAY 9600", shop.pays(0), 9600 % 7 + 1);
        edge("8: X far on, DAY 9699", shop.pays(99), 9699 % 7 + 1);
    }

    private static void counts() {
        for (int bad : new int[] {-1, 12, LOW, HIGH}) {
            edge("29: count " + bad, new ForgoneShop().count(bad), BAD);
        }
        int[] none = {1, 0, 60, 4, 0, 0, 0, 0, 0, 0, 0, 0};
        for (int what = 0; what < 12; what++) {
            edge("29: of nothing, count " + what, Shops.laid("a0;").count(what), none[what]);
        }
        ForgoneShop shop = Shops.laid(Shops.many("a0;", 5) + Shops.many("u4,1,20,0;", 7) + "u0,3,1,0;x0;s99,20;");
        edge("29: five PERSONS", shop.count(0), 5);
        edge("29: eight things", shop.count(1), 8);
        edge("29: MONEY of the SHOP", shop.count(2), 99);
        edge("29: L", shop.count(3), 20);
        Shops.does(shop, "s0 s1 s2 s3 s4 s5 s6 p24 p24");
        edge("29: DAYS", shop.count(4), 48);
        edge("29: in the CELLAR", shop.count(5), 7);
        edge("29: what is with a PERSON is not GONE", shop.count(6), 0);
        edge("29: NEAR, all", shop.count(7), 693);
        edge("29: UNDONE, 8 at most", shop.count(9), 8);
        edge("29: GONE", Shops.laid("a0;u0,3,2,0;u0,2,9,0;s99,0;", "s0 s1 p1").count(6), 1);
        edge("29: GONE is not in the CELLAR", Shops.laid("a0;u0,3,2,0;u0,2,9,0;s99,0;", "s0 s1 p1").count(5), 1);
        edge("29: NEAR but for what is with PERSONS", Shops.laid("a0;u0,3,2,0;u0,0,9,0;", "s1").count(7), 9);
        edge("29: letters", Shops.written("abc").count(11), 3);
    }

    public static void main(String[] args) {
        newObject();
        write();
        wipe();
        forms();
        faultPlaces();
        faultsOfPersonsAndThings();
        faultsOfTheShop();
        lays();
        laysAnew();
        persons();
        things();
        pays();
        counts();
        CHECK.close();
    }
}
