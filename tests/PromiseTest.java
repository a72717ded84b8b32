/** Each promise of the document by itself: ordinary calls, the edges it names, wrong ones. */
public final class PromiseTest {
    private static final int BAD = -1, NO = -2, FULL = -3, NONE = -4;
    private static final int LOW = Integer.MIN_VALUE, HIGH = Integer.MAX_VALUE;
    private static final Check CHECK = new Check();

    private static void is(String call, long got, long want) {
        CHECK.same(call, got, want);
    }

    private static void write(ForgoneShop shop, String text) {
        for (int i = 0; i < text.length(); i++) {
            shop.write(text.charAt(i));
        }
    }

    /** A shop in which that text is laid. */
    private static ForgoneShop laid(String text) {
        ForgoneShop shop = new ForgoneShop();
        write(shop, text);
        if (shop.lay() < 1) {
            CHECK.fail("can not lay " + text);
        }
        return shop;
    }

    private static int faultOf(String text) {
        ForgoneShop shop = new ForgoneShop();
        write(shop, text);
        return shop.fault();
    }

    private static void faultIs(String text, int want) {
        is("fault of " + text, faultOf(text), want);
    }

    private static String many(String item, int times) {
        StringBuilder text = new StringBuilder();
        for (int i = 0; i < times; i++) {
            text.append(item);
        }
        return text.toString();
    }

    private static void newObject() {
        ForgoneShop shop = new ForgoneShop();
        int[] counts = {4, 8, 80, 5, 0, 0, 0, 0, 0, 0, 0, 0};
        for (int what = 0; what < counts.length; what++) {
            is("count " + what, shop.count(what), counts[what]);
        }
        int[] money = {5, 0, 12, 30};
        for (int p = 0; p < 4; p++) {
            is("money of " + p, shop.person(p, 0), money[p]);
            is("rue of " + p, shop.person(p, 1), 0);
            is("things of " + p, shop.person(p, 2), 3 << 2 * p);
        }
        int[][] things = {{0, 0, 6, 2}, {0, 1, 9, 7}, {1, 3, 14, 0}, {1, 2, 8, 3}, {2, 0, 3, 1}, {2, 1, 12, 15},
            {3, 0, 10, 4}, {3, 2, 5, 5}};
        for (int t = 0; t < 8; t++) {
            for (int what = 0; what < 4; what++) {
                is("thing " + t + " " + what, shop.thing(t, what), things[t][what]);
            }
        }
        int[] rates = {3, 2, 5, 1, 3};
        for (int n = 0; n < rates.length; n++) {
            is("pays " + n, shop.pays(n), rates[n]);
        }
        is("undo", shop.undo(), NO);
        is("back", shop.back(), NO);
        is("wipe", shop.wipe(), 0);
    }

    private static void writing() {
        ForgoneShop shop = new ForgoneShop();
        for (int bad : new int[] {31, 127, 0, -1, 97 + 65536, LOW, HIGH}) {
            is("write " + bad, shop.write(bad), BAD);
        }
        is("space", shop.write(32), 1);
        is("tilde", shop.write(126), 2);
        for (int i = 3; i <= 200; i++) {
            is("write", shop.write('a'), i);
        }
        is("too much", shop.write('a'), FULL);
        is("bad ahead of full", shop.write(31), BAD);
        is("length", shop.count(11), 200);
        is("fault by the first letter", shop.fault(), 0);
    }

    private static void wiping() {
        ForgoneShop shop = new ForgoneShop();
        write(shop, "a5;");
        is("wipe", shop.wipe(), 3);
        is("wipe again", shop.wipe(), 0);
        is("length", shop.count(11), 0);
        write(shop, "b");
        is("fault of what was written behind", shop.fault(), 0);
        is("laid stays", shop.count(0), 4);
    }

    private static void faultForms() {
        String[] sound = {"", "a0;", "a05;", "a99;", "x3;", "x0;", "x9;", "x05;", "s0,0;", "s99,20;", "s1,1;s2,2;",
            "a1;u0,0,1,0;", "a1;u0,3,20,20;", "a1;u00,03,01,00;", "x1;a1;s1,1;u0,0,1,0;a2;"};
        for (String text : sound) {
            faultIs(text, NONE);
        }
        String[] wrong = {"a", "a;", "a5", "a5,", "a5,;", "a5,5;", "a,5;", "a100;", "a005;", "A5;", "b5;", "5;", ";",
            " a5;", "a 5;", "a-5;", "a5 ;", "x", "x;", "x10;", "x3,3;", "s5;", "s5,21;", "s5,5,5;", "s,5;", "s100,5;",
            "~", "a5:", "a5/;", "a:;"};
        for (String text : wrong) {
            faultIs(text, 0);
            faultIs("a1;" + text, 3);
            faultIs("a1;x2;" + text + "b", 6);
        }
    }

    private static void faultThings() {
        String[] wrong = {"u1,0,1,0;", "u0,4,1,0;", "u0,0,0,0;", "u0,0,21,0;", "u0,0,1,21;", "u0,0,1;", "u0,0,1,0,0;",
            "u0;", "u;", "u0,0,1,0", "u0,0,,0;", "u0,0,1,0,;"};
        for (String text : wrong) {
            faultIs("a1;" + text, 3);
        }
        faultIs("u0,0,1,0;", 0);
        faultIs("a1;u1,0,1,0;a2;", 3);
        faultIs("a1;a2;u1,0,1,0;", NONE);
        faultIs(many("a1;", 5), NONE);
        faultIs(many("a1;", 6), 15);
        faultIs("a1;" + many("u0,0,1,0;", 8), NONE);
        faultIs("a1;" + many("u0,0,1,0;", 9), 3 + 72);
        faultIs(many("x1;", 12), NONE);
        faultIs(many("x1;", 13), 36);
        faultIs("a1;b;b;", 3);
        faultIs(many("s1,1;", 40), NONE);
        faultIs(many("s1,1;", 39) + "s1,21", 195);
    }

    private static void laying() {
        ForgoneShop shop = new ForgoneShop();
        is("nothing written", shop.lay(), NO);
        write(shop, "x5;s9,9;");
        is("no person", shop.lay(), NO);
        write(shop, "a7;q");
        is("a fault", shop.lay(), NO);
        is("all as it was", shop.count(0), 4);
        is("days as they were", shop.pays(0), 3);
        shop.wipe();
        shop.sell(0);
        shop.pass(2);
        shop.keep();
        shop.see(0, 0, 0);
        write(shop, "a7;a8;u1,2,3,4;s1,2;s33,6;x9;");
        is("lay", shop.lay(), 2);
        int[] counts = {2, 1, 33, 6, 0, 0, 0, 0, 0, 0, 0, 29};
        for (int what = 0; what < counts.length; what++) {
            is("count " + what, shop.count(what), counts[what]);
        }
        is("undo", shop.undo(), NO);
        is("back", shop.back(), NO);
        is("money", shop.person(1, 0), 8);
        is("rue", shop.person(0, 1), 0);
        shop.wipe();
        write(shop, "a3;");
        is("lay", shop.lay(), 1);
        is("money without s", shop.count(2), 60);
        is("least without s", shop.count(3), 4);
        is("rate without x", shop.pays(7), 3);
        is("no things", shop.thing(0, 0), BAD);
        is("text stays", shop.count(11), 3);
    }

    private static void laidAsToldLater() {
        ForgoneShop shop = new ForgoneShop();
        shop.sell(0);
        shop.keep();
        shop.see(1, 2, 3);
        write(shop, "a7;zz");
        is("lay", shop.lay(), NO);
        is("fault", shop.fault(), 3);
        is("undone stays", shop.count(9), 1);
        is("kept stays", shop.count(10), 1);
        is("seen stays", shop.count(8), 1);
        is("sold stays", shop.thing(0, 4), 1);
        is("rates stay", shop.pays(2), 5);
    }

    private static void persons() {
        ForgoneShop shop = new ForgoneShop();
        shop.sell(0);
        shop.pass(3);
        is("money", shop.person(0, 0), 23);
        is("rue", shop.person(0, 1), 6);
        is("things", shop.person(0, 2), 2);
        is("rue of another", shop.person(1, 1), 0);
        for (int bad : new int[] {-1, 4, LOW, HIGH}) {
            is("person " + bad, shop.person(bad, 0), BAD);
        }
        for (int bad : new int[] {-1, 3, LOW, HIGH}) {
            is("what " + bad, shop.person(0, bad), BAD);
        }
    }

    private static void things() {
        ForgoneShop shop = laid("a0;a9;u1,3,5,7;u0,1,4,2;x2;x3;");
        int[] told = {1, 3, 5, 7, 0, 10};
        for (int what = 0; what < told.length; what++) {
            is("what " + what, shop.thing(0, what), told[what]);
        }
        shop.sell(0);
        is("in the cellar", shop.thing(0, 4), 1);
        shop.pass(1);
        is("near", shop.thing(0, 2), 3);
        is("price in the cellar", shop.thing(0, 5), 9);
        is("price with its person", shop.thing(1, 5), 12);
        shop.pass(2);
        int[] gone = {1, 3, 0, 7, 2, 0};
        for (int what = 0; what < gone.length; what++) {
            is("gone, what " + what, shop.thing(0, what), gone[what]);
        }
        for (int bad : new int[] {-1, 2, 8, LOW, HIGH}) {
            is("thing " + bad, shop.thing(bad, 0), BAD);
        }
        for (int bad : new int[] {-1, 6, LOW, HIGH}) {
            is("what " + bad, shop.thing(0, bad), BAD);
        }
    }

    private static void rates() {
        ForgoneShop shop = laid("a0;x1;x2;x3;");
        is("this day", shop.pays(0), 1);
        is("behind the last one", shop.pays(3), 1);
        is("far", shop.pays(99), 1);
        is("far, too", shop.pays(98), 3);
        shop.pass(2);
        is("the third day", shop.pays(0), 3);
        is("the fourth day", shop.pays(1), 1);
        for (int bad : new int[] {-1, 100, LOW, HIGH}) {
            is("pays " + bad, shop.pays(bad), BAD);
        }
    }

    private static void selling() {
        ForgoneShop shop = laid("a1;u0,0,4,1;u0,0,3,1;u0,0,20,1;u0,0,16,1;u0,0,4,1;s60,4;x3;x0;");
        is("not near enough", shop.sell(1), NO);
        is("just near enough", shop.sell(0), 12);
        is("money of the shop", shop.count(2), 48);
        is("money of the person", shop.person(0, 0), 13);
        is("in the cellar", shop.thing(0, 4), 1);
        is("sold already", shop.sell(0), NO);
        is("shop too poor", shop.sell(2), NO);
        is("nothing undone by what can not be", shop.count(9), 1);
        is("all the shop has", shop.sell(3), 48);
        is("shop has nothing", shop.count(2), 0);
        is("one dear for nothing", shop.sell(4), NO);
        shop.pass(1);
        is("free", shop.sell(4), 0);
        is("in the cellar", shop.count(5), 3);
        for (int bad : new int[] {-1, 5, LOW, HIGH}) {
            is("sell " + bad, shop.sell(bad), BAD);
        }
        ForgoneShop gone = laid("a1;u0,3,1,1;s9,0;");
        gone.sell(0);
        gone.pass(1);
        is("gone", gone.sell(0), NO);
    }

    private static void buyingBack() {
        ForgoneShop shop = laid("a0;a50;u0,1,10,1;u1,0,5,2;s90,0;x2;x3;x1;");
        is("with its person", shop.buyBack(0), NO);
        is("sell", shop.sell(0), 20);
        is("buy back", shop.buyBack(0), 20);
        is("with its person", shop.thing(0, 4), 0);
        is("money", shop.person(0, 0), 0);
        is("money of the shop", shop.count(2), 90);
        is("undone", shop.count(9), 2);
        shop.sell(0);
        shop.pass(1);
        is("too dear", shop.buyBack(0), NO);
        is("undone", shop.count(9), 4);
        shop.pass(1);
        is("cheap", shop.buyBack(0), 14);
        is("near it stays", shop.thing(0, 2), 14);
        is("money", shop.person(0, 0), 6);
        is("money of another", shop.person(1, 0), 50);
        for (int bad : new int[] {-1, 2, LOW, HIGH}) {
            is("buyBack " + bad, shop.buyBack(bad), BAD);
        }
        ForgoneShop gone = laid("a99;u0,3,2,1;s9,0;");
        gone.sell(0);
        gone.pass(1);
        is("gone", gone.buyBack(0), NO);
    }

    private static void passing() {
        ForgoneShop shop = laid("a0;a0;u0,0,10,1;u0,1,10,2;u0,2,10,3;u1,3,10,4;u1,0,10,5;s99,0;x1;");
        for (int t = 0; t < 4; t++) {
            shop.sell(t);
        }
        is("a day", shop.pass(1), 1);
        int[][] near = {{11, 12, 10, 8, 10}, {12, 14, 9, 6, 10}, {13, 16, 9, 4, 10}, {14, 18, 8, 2, 10},
            {15, 20, 8, 0, 10}};
        for (int day = 0; day < near.length; day++) {
            for (int t = 0; t < 5; t++) {
                is("day " + day + ", thing " + t, shop.thing(t, 2), near[day][t]);
            }
            is("rue", shop.person(0, 1), 6 * (day + 1));
            is("rue of the other", shop.person(1, 1), 4 * (day + 1));
            is("gone", shop.count(6), day == 4 ? 1 : 0);
            is("pass", shop.pass(1), day + 2);
        }
        is("rue of what is gone", shop.person(1, 1), 24);
        is("many days", shop.pass(24), 30);
        is("many more", shop.pass(24), 54);
        is("growing at most", shop.thing(1, 2), 99);
        shop.pass(24);
        shop.pass(24);
        is("plain at most", shop.thing(0, 2), 99);
        is("faded", shop.thing(2, 4), 2);
        for (int bad : new int[] {0, -1, 25, LOW, HIGH}) {
            is("pass " + bad, shop.pass(bad), BAD);
        }
        is("days", shop.count(4), 102);
    }

    private static void undoing() {
        ForgoneShop shop = laid("a5;a0;u0,3,5,3;u1,1,6,2;s70,0;x2;");
        shop.keep();
        shop.see(0, 1, 1);
        shop.sell(0);
        shop.pass(3);
        is("gone", shop.thing(0, 4), 2);
        is("undo", shop.undo(), 1);
        is("near", shop.thing(0, 2), 5);
        is("in the cellar", shop.thing(0, 4), 1);
        is("rue", shop.person(0, 1), 0);
        is("days", shop.count(4), 0);
        is("undo", shop.undo(), 0);
        is("money", shop.person(0, 0), 5);
        is("money of the shop", shop.count(2), 70);
        is("with its person", shop.thing(0, 4), 0);
        is("kept stays", shop.count(10), 1);
        is("seen stays", shop.count(8), 1);
        is("no more", shop.undo(), NO);
        for (int i = 0; i < 11; i++) {
            shop.pass(1 + i % 2);
        }
        is("eight at most", shop.count(9), 8);
        for (int left = 7; left >= 0; left--) {
            is("undo", shop.undo(), left);
        }
        is("day then", shop.count(4), 4);
        is("no more", shop.undo(), NO);
        shop.sell(1);
        shop.buyBack(1);
        is("undo buying back", shop.undo(), 1);
        is("in the cellar again", shop.thing(1, 4), 1);
    }

    private static void behindDays() {
        ForgoneShop shop = laid("a0;u0,0,10,1;u0,1,20,1;u0,2,5,1;u0,3,9,1;s99,0;x1;");
        is("with its person", shop.behind(40, 3), 9);
        for (int t = 0; t < 4; t++) {
            shop.sell(t);
        }
        int[][] due = {{0, 10, 20, 5, 9}, {1, 11, 22, 5, 7}, {2, 12, 24, 4, 5}, {5, 15, 30, 3, 0}, {39, 49, 98, 0, 0},
            {40, 50, 99, 0, 0}};
        for (int[] row : due) {
            for (int t = 0; t < 4; t++) {
                is("behind " + row[0] + " " + t, shop.behind(row[0], t), row[t + 1]);
            }
        }
        shop.pass(1);
        is("fading from an uneven day on", shop.behind(1, 2), 4);
        shop.pass(5);
        is("gone", shop.behind(3, 3), 0);
        for (int bad : new int[] {-1, 41, LOW, HIGH}) {
            is("days " + bad, shop.behind(bad, 0), BAD);
        }
        for (int bad : new int[] {-1, 4, LOW, HIGH}) {
            is("thing " + bad, shop.behind(0, bad), BAD);
        }
        is("nothing changes", shop.count(4), 6);
    }

    private static void hearing() {
        ForgoneShop shop = laid("a0;u0,0,10,1;u0,3,20,1;u0,0,15,1;s99,0;x1;");
        is("empty cellar", shop.heard(1), NONE);
        shop.sell(0);
        is("at once", shop.heard(10), 0);
        is("the next day", shop.heard(11), 1);
        is("behind 60 days", shop.heard(70), 60);
        is("behind 61", shop.heard(71), NONE);
        shop.sell(1);
        is("both", shop.heard(30), 0);
        is("less and less, then more", shop.heard(31), 21);
        is("nothing changes", shop.thing(0, 2), 10);
        is("no day goes by", shop.count(4), 0);
        is("never", shop.heard(999), NONE);
        for (int bad : new int[] {0, -1, 1000, LOW, HIGH}) {
            is("heard " + bad, shop.heard(bad), BAD);
        }
    }

    private static void sums() {
        ForgoneShop shop = laid("a0;a0;u0,0,4,5;u0,0,5,3;u0,0,6,3;u1,0,9,0;u0,0,3,0;u0,0,9,8;s12,4;x1;");
        is("nothing needed", shop.sum(0, 0, 0), 0);
        is("nothing rued", shop.sum(0, 0, 1), 0);
        is("lowest of several", shop.sum(0, 5, 0), 2);
        is("its rue", shop.sum(0, 5, 1), 3);
        is("the other", shop.sum(0, 6, 0), 4);
        is("two", shop.sum(0, 9, 0), 6);
        is("their rue", shop.sum(0, 9, 1), 6);
        is("more than the shop has", shop.sum(0, 12, 0), NONE);
        is("more, its rue", shop.sum(0, 12, 1), NONE);
        is("of another", shop.sum(1, 9, 0), 8);
        is("of another, no more", shop.sum(1, 10, 0), NONE);
        shop.sell(2);
        is("not with it", shop.sum(0, 6, 0), NONE);
        is("with what the shop has left", shop.sum(0, 5, 0), 2);
        for (int bad : new int[] {-1, 2, LOW, HIGH}) {
            is("person " + bad, shop.sum(bad, 0, 0), BAD);
            is("what " + bad, shop.sum(0, 0, bad), BAD);
        }
        for (int bad : new int[] {-1, 1000, LOW, HIGH}) {
            is("sum " + bad, shop.sum(0, bad, 0), BAD);
        }
        is("most", shop.sum(0, 999, 0), NONE);
    }

    private static void sumAtTheEdge() {
        ForgoneShop shop = laid("a0;u0,0,6,4;u0,0,6,2;u0,0,6,2;u0,0,12,4;s12,6;x1;");
        is("all that the shop has", shop.sum(0, 12, 0), 6);
        is("its rue", shop.sum(0, 12, 1), 4);
        is("one beyond", shop.sum(0, 13, 0), NONE);
        ForgoneShop first = laid("a0;a0;u0,0,9,1;u1,0,5,2;s90,4;x1;");
        is("the first thing", first.sum(0, 9, 0), 1);
        is("not what is of another", first.sum(1, 6, 0), NONE);
        is("a dearer one of its own", first.sum(1, 5, 1), 2);
    }

    private static void taking() {
        ForgoneShop shop = laid("a0;a0;u0,0,4,1;u1,1,4,1;u0,2,9,1;u1,3,10,1;u0,0,3,0;s14,4;x1;");
        is("now", shop.take(0, 0), 9);
        is("how much", shop.take(0, 1), 14);
        is("behind two days", shop.take(2, 0), 6);
        is("behind two days", shop.take(2, 1), 8 + 8);
        is("behind twenty", shop.take(20, 0), 3);
        is("behind twenty", shop.take(20, 1), 24 + 44);
        shop.sell(3);
        is("with what is there", shop.take(0, 0), 1);
        is("with what is there", shop.take(0, 1), 14);
        is("what is there goes", shop.take(20, 1), 44);
        is("the better one", shop.take(20, 0), 2);
        is("nothing changes", shop.count(4), 0);
        for (int bad : new int[] {-1, 21, LOW, HIGH}) {
            is("days " + bad, shop.take(bad, 0), BAD);
        }
        for (int bad : new int[] {-1, 2, LOW, HIGH}) {
            is("what " + bad, shop.take(0, bad), BAD);
        }
        ForgoneShop none = laid("a0;u0,3,4,1;u0,0,3,1;x1;");
        is("none is as good", none.take(2, 0), 0);
        is("none is as much", none.take(2, 1), 0);
        is("no things", laid("a0;").take(5, 0), 0);
        is("in the cellar nothing", laid("a0;").take(5, 1), 0);
        ForgoneShop first = laid("a0;u0,1,3,1;u0,0,5,1;u0,0,6,1;u0,0,4,1;s90,4;x1;");
        is("not the first, too far", first.take(3, 0), 14);
        first.sell(1);
        first.sell(2);
        is("two that are there", first.take(3, 0), 8);
        is("two that are there", first.take(3, 1), 8 + 9 + 7);
    }

    private static void bestDay() {
        ForgoneShop shop = laid("a0;u0,1,4,1;u0,3,5,1;x1;x2;x5;x5;s60,0;");
        is("first of several", shop.when(0, 0), 2);
        is("its price", shop.when(0, 1), 20);
        shop.pass(3);
        is("this day", shop.when(0, 0), 0);
        shop.sell(1);
        is("in the cellar", shop.when(1, 0), NO);
        shop.pass(4);
        is("gone", shop.when(1, 1), NO);
        is("bad ahead of no", shop.when(1, 2), BAD);
        for (int bad : new int[] {-1, 2, LOW, HIGH}) {
            is("thing " + bad, shop.when(bad, 0), BAD);
            is("what " + bad, shop.when(0, bad), BAD);
        }
        is("the next day", laid("a0;u0,1,4,1;x1;x2;x0;").when(0, 0), 1);
        ForgoneShop never = laid("a0;u0,0,4,1;x0;");
        is("never", never.when(0, 0), 0);
        is("nothing", never.when(0, 1), 0);
        ForgoneShop twelve = laid("a0;u0,0,4,1;" + many("x0;", 11) + "x1;");
        is("the last one", twelve.when(0, 0), 11);
        twelve.pass(12);
        is("not with 21 days", twelve.when(0, 1), 4);
    }

    private static void pairs() {
        ForgoneShop shop = laid("a0;a0;u0,0,5,1;u0,3,4,1;u1,0,6,1;u1,0,5,1;u0,0,4,1;u0,0,5,1;s99,0;x1;");
        is("first two", shop.pair(9), 1);
        is("by the other", shop.pair(10), 3);
        is("then the lower", shop.pair(8), 14);
        is("of the first", shop.pair(11), 2);
        is("not with itself", shop.pair(12), NONE);
        shop.sell(1);
        is("in the cellar, too", shop.pair(8), 14);
        shop.pass(2);
        is("not what is gone", shop.pair(6), NONE);
        is("nor with 0", shop.pair(5), NONE);
        is("others", shop.pair(9), 4);
        is("least", shop.pair(2), NONE);
        is("most", shop.pair(198), NONE);
        for (int bad : new int[] {1, 199, 0, -1, LOW, HIGH}) {
            is("pair " + bad, shop.pair(bad), BAD);
        }
    }

    private static void swapping() {
        ForgoneShop shop = laid("a0;a0;a0;u0,0,5,9;u1,0,5,4;u0,0,5,5;u1,0,5,0;s99,0;x1;");
        is("how much", shop.swap(-1), 4 + 2 + 2 + 0);
        int[] holders = {1, 0, 1, 0};
        for (int t = 0; t < 4; t++) {
            is("thing " + t, shop.swap(t), holders[t]);
        }
        shop.sell(1);
        is("two against one", shop.swap(-1), 4 + 5 + 0);
        is("the dearer one", shop.swap(0), 1);
        is("the other stays", shop.swap(2), 0);
        is("with nobody", shop.swap(1), NONE);
        is("the lower person", shop.swap(3), 0);
        shop.sell(3);
        is("none to swap with", shop.swap(-1), 14);
        is("it stays", shop.swap(0), 0);
        shop.sell(0);
        shop.sell(2);
        is("nothing with anybody", shop.swap(-1), 0);
        is("none", shop.swap(0), NONE);
        for (int bad : new int[] {-2, 4, LOW, HIGH}) {
            is("swap " + bad, shop.swap(bad), BAD);
        }
        ForgoneShop same = laid("a0;a0;a0;u2,0,5,0;u0,0,5,0;u1,0,5,1;");
        is("by half of 1, cut", same.swap(-1), 0);
        is("first by the lowest thing", same.swap(0), 0);
        is("then the next", same.swap(1), 1);
        is("then the last", same.swap(2), 2);
        is("nothing at all", laid("a0;").swap(-1), 0);
        ForgoneShop all = laid("a0;a0;a0;a0;a0;u0,0,5,20;u0,0,5,18;u1,0,5,16;u1,0,5,14;u2,0,5,12;u2,0,5,10;"
            + "u3,0,5,8;u4,0,5,6;");
        is("all", all.swap(-1), 10 + 9 + 8 + 7 + 6 + 5 + 4 + 3);
        int[] ways = {1, 1, 0, 0, 3, 4, 2, 2};
        for (int t = 0; t < 8; t++) {
            is("all, thing " + t, all.swap(t), ways[t]);
        }
    }

    private static void seeing() {
        ForgoneShop shop = laid("a0;u0,0,5,1;");
        for (int i = 1; i <= 6; i++) {
            is("see", shop.see(0, i % 2 == 0 ? 0 : 20, i % 2 == 0 ? 99 : 0), i);
        }
        is("one more", shop.see(0, 0, 0), FULL);
        is("bad ahead of full", shop.see(0, 0, 100), BAD);
        for (int bad : new int[] {-1, 1, LOW, HIGH}) {
            is("thing " + bad, shop.see(bad, 0, 0), BAD);
        }
        for (int bad : new int[] {-1, 21, LOW, HIGH}) {
            is("days " + bad, shop.see(0, bad, 0), BAD);
        }
        for (int bad : new int[] {-1, 100, LOW, HIGH}) {
            is("near " + bad, shop.see(0, 0, bad), BAD);
        }
        is("seen", shop.count(8), 6);
    }

    private static void forgetting() {
        ForgoneShop shop = laid("a0;u0,0,5,1;");
        is("nothing", shop.forget(), 0);
        shop.see(0, 1, 1);
        shop.see(0, 2, 2);
        is("no kind", shop.kinds(0), 0);
        is("two", shop.forget(), 2);
        is("none left", shop.count(8), 0);
        is("any kind", shop.kinds(0), 15);
    }

    private static void kindsSeen() {
        ForgoneShop shop = laid("a0;u0,0,5,1;u0,1,5,1;s60,0;x1;");
        is("nothing seen", shop.kinds(0), 15);
        shop.see(0, 0, 5);
        is("any", shop.kinds(0), 15);
        shop.see(0, 4, 3);
        is("fading", shop.kinds(0), 4);
        shop.see(0, 1, 6);
        is("no one kind", shop.kinds(0), 0);
        is("of another nothing is seen", shop.kinds(1), 15);
        shop.forget();
        shop.see(1, 6, 17);
        is("growing", shop.kinds(1), 2);
        shop.forget();
        shop.see(1, 3, 0);
        is("a sham", shop.kinds(1), 8);
        shop.forget();
        shop.see(1, 1, 5);
        is("fading on an even day", shop.kinds(1), 4);
        shop.pass(1);
        is("not on an uneven day", shop.kinds(1), 0);
        shop.forget();
        shop.see(1, 1, 7);
        shop.sell(1);
        is("as it stands", shop.kinds(1), 2);
        shop.pass(1);
        is("as it stands then, on an even day", shop.kinds(1), 4);
        for (int bad : new int[] {-1, 2, LOW, HIGH}) {
            is("kinds " + bad, shop.kinds(bad), BAD);
        }
        ForgoneShop gone = laid("a0;u0,3,1,1;s60,0;");
        gone.sell(0);
        gone.pass(1);
        gone.see(0, 9, 0);
        is("gone by any kind", gone.kinds(0), 15);
        gone.see(0, 9, 1);
        is("gone, seen otherwise", gone.kinds(0), 0);
    }

    private static void sureIs(int[] call, int above, int below) {
        ForgoneShop shop = new ForgoneShop();
        is("above", shop.sure(call[0], call[1], call[2], call[3], 0), above);
        is("below", shop.sure(call[0], call[1], call[2], call[3], 1), below);
    }

    private static void sureness() {
        sureIs(new int[] {5, 2, 2, 1}, 4, 5);
        sureIs(new int[] {4, 3, 0, 0}, 2, 5);
        sureIs(new int[] {1, 9, 4, 0}, 1, 59050);
        sureIs(new int[] {9, 1, 4, 0}, 59049, 59050);
        sureIs(new int[] {3, 0, 0, 4}, 0, 1);
        sureIs(new int[] {3, 0, 4, 0}, 1, 1);
        sureIs(new int[] {3, 0, 1, 1}, NONE, NONE);
        sureIs(new int[] {3, 1, 1, 0}, 27, 34);
        sureIs(new int[] {9, 5, 4, 4}, 9, 10);
        sureIs(new int[] {5, 5, 1, 0}, 1, 2);
        int[] good = {1, 0, 0, 0, 0};
        int[] low = {1, 0, 0, 0, 0};
        int[] high = {9, 9, 4, 4, 1};
        for (int i = 0; i < 5; i++) {
            for (int bad : new int[] {low[i] - 1, high[i] + 1, LOW, HIGH}) {
                int[] c = good.clone();
                c[i] = bad;
                is("number " + i + " " + bad, new ForgoneShop().sure(c[0], c[1], c[2], c[3], c[4]), BAD);
            }
        }
        is("bad ahead of none", new ForgoneShop().sure(5, 0, 1, 1, 2), BAD);
    }

    private static void fines() {
        ForgoneShop shop = laid("a0;u0,0,7,1;u0,3,20,1;u0,1,1,1;s99,0;x1;x9;x0;");
        is("just as much", shop.fine(0, 1), 3);
        is("cut upwards", shop.fine(1, 1), 9);
        is("two looks", shop.fine(1, 2), 2);
        is("three looks", shop.fine(1, 3), 1);
        is("four looks", shop.fine(2, 4), 1);
        shop.sell(2);
        shop.pass(1);
        is("by the price of the day", shop.fine(1, 1), 78);
        is("in the cellar, too", shop.fine(2, 1), 12);
        shop.pass(1);
        is("for nothing", shop.fine(1, 1), 0);
        for (int bad : new int[] {-1, 3, LOW, HIGH}) {
            is("thing " + bad, shop.fine(bad, 1), BAD);
        }
        for (int bad : new int[] {0, 5, -1, LOW, HIGH}) {
            is("looks " + bad, shop.fine(0, bad), BAD);
        }
    }

    private static void whimIs(ForgoneShop shop, int[] call, int above, int below) {
        is("above", shop.whims(call[0], call[1], call[2], call[3], 0), above);
        is("below", shop.whims(call[0], call[1], call[2], call[3], 1), below);
    }

    private static void whimsOfDays() {
        ForgoneShop shop = laid("a0;u0,0,4,1;u0,3,4,1;x2;x0;x3;s60,0;");
        whimIs(shop, new int[] {0, 0, 0, 5}, 0, 1);
        whimIs(shop, new int[] {0, 1, 0, 10}, 1, 1);
        whimIs(shop, new int[] {0, 1, 8, 3}, 7, 10);
        whimIs(shop, new int[] {0, 1, 9, 3}, 0, 1);
        whimIs(shop, new int[] {0, 2, 8, 3}, 7, 10);
        whimIs(shop, new int[] {0, 3, 8, 3}, 91, 100);
        whimIs(shop, new int[] {0, 3, 12, 4}, 3, 5);
        whimIs(shop, new int[] {0, 8, 1, 10}, 0, 1);
        whimIs(shop, new int[] {0, 8, 1, 0}, 1, 1);
        whimIs(shop, new int[] {0, 8, 1, 9}, 40951, 100000);
        whimIs(shop, new int[] {0, 8, 999, 9}, 0, 1);
        shop.pass(1);
        whimIs(shop, new int[] {0, 1, 1, 3}, 0, 1);
        shop.pass(1);
        shop.sell(1);
        is("in the cellar", shop.whims(1, 1, 1, 1, 0), NO);
        is("bad ahead of no", shop.whims(1, 1, 1, 1, 2), BAD);
        shop.pass(2);
        is("gone", shop.whims(1, 1, 1, 1, 0), NO);
        int[] low = {0, 0, 0, 0, 0};
        int[] high = {1, 8, 999, 10, 1};
        for (int i = 0; i < 5; i++) {
            for (int bad : new int[] {low[i] - 1, high[i] + 1, LOW, HIGH}) {
                int[] c = low.clone();
                c[i] = bad;
                is("number " + i + " " + bad, shop.whims(c[0], c[1], c[2], c[3], c[4]), BAD);
            }
        }
        whimIs(laid("a0;u0,0,4,1;x1;"), new int[] {0, 8, 4, 9}, 56953279, 100000000);
    }

    private static void years() {
        // with z = 0, k = 0 the draw is 1: thing 0, sold; k = 1: 6152 times 6152 is 41487 modulo 65521,
        // by 8 that is 5185, modulo 2 thing 1, and 41487 modulo 8 is 7: nothing
        ForgoneShop shop = laid("a0;a9;u0,0,9,2;u1,0,9,3;s60,0;x1;");
        is("a day", shop.year(0, 1, 0), 10);
        is("its rue", shop.year(0, 1, 1), 2);
        is("two days", shop.year(0, 2, 0), 11);
        is("two days", shop.year(0, 2, 1), 4);
        is("nothing changes", shop.count(5), 0);
        is("no day", shop.count(4), 0);
        is("nothing to undo", shop.count(9), 0);
        shop.sell(1);
        shop.pass(2);
        is("with what is in the cellar", shop.year(0, 1, 0), 10 + 12);
        is("rue of all", shop.year(0, 1, 1), 2 + 9);
        for (int bad : new int[] {-1, 10000, LOW, HIGH}) {
            is("by " + bad, shop.year(bad, 1, 0), BAD);
        }
        for (int bad : new int[] {0, 61, -1, LOW, HIGH}) {
            is("days " + bad, shop.year(0, bad, 0), BAD);
        }
        for (int bad : new int[] {-1, 2, LOW, HIGH}) {
            is("what " + bad, shop.year(0, 1, bad), BAD);
        }
        ForgoneShop nothing = laid("a0;");
        is("no things", nothing.year(9999, 60, 0), 0);
        is("no rue", nothing.year(9999, 60, 1), 0);
        is("one thing", laid("a0;u0,0,9,2;x1;").year(0, 1, 0), 10);
        is("as at first", new ForgoneShop().year(5, 60, 0), 121);
        is("as at first", new ForgoneShop().year(5, 60, 1), 796);
    }

    private static void keeping() {
        ForgoneShop shop = new ForgoneShop();
        is("keep", shop.keep(), 1);
        shop.sell(0);
        is("nothing undone by it", shop.count(9), 1);
        is("keep", shop.keep(), 2);
        is("one too many", shop.keep(), FULL);
        is("kept", shop.count(10), 2);
        is("still undone", shop.undo(), 0);
    }

    private static void backing() {
        ForgoneShop shop = new ForgoneShop();
        is("nothing kept", shop.back(), NO);
        shop.sell(0);
        shop.keep();
        shop.pass(2);
        shop.keep();
        shop.sell(1);
        shop.pass(1);
        shop.see(0, 1, 1);
        shop.write('a');
        is("back", shop.back(), 1);
        is("days", shop.count(4), 2);
        is("in the cellar", shop.count(5), 1);
        is("rue", shop.person(0, 1), 4);
        is("near", shop.thing(0, 2), 8);
        is("undone no more", shop.undo(), NO);
        is("seen stays", shop.count(8), 1);
        is("text stays", shop.count(11), 1);
        shop.pass(3);
        is("undone again", shop.count(9), 1);
        is("back", shop.back(), 0);
        is("days", shop.count(4), 0);
        is("money of the shop", shop.count(2), 62);
        is("money", shop.person(0, 0), 23);
        is("undone no more", shop.count(9), 0);
        is("no more", shop.back(), NO);
        is("kept anew", shop.keep(), 1);
    }

    private static void counting() {
        ForgoneShop shop = laid("a5;a6;u0,3,2,1;u1,0,7,2;u0,1,6,3;s55,2;x1;x2;");
        shop.sell(0);
        shop.sell(1);
        shop.pass(1);
        shop.sell(2);
        shop.see(0, 0, 0);
        shop.keep();
        int[] counts = {2, 3, 55 - 2 - 7 - 12, 2, 1, 2, 1, 8 + 6, 1, 4, 1, 45};
        for (int what = 0; what < counts.length; what++) {
            is("count " + what, shop.count(what), counts[what]);
        }
        for (int bad : new int[] {-1, 12, LOW, HIGH}) {
            is("count " + bad, shop.count(bad), BAD);
        }
    }

    private static void shopsAndActs() {
        CHECK.begin("promise 1, a new object");
        newObject();
        CHECK.begin("promise 2, write");
        writing();
        CHECK.begin("promise 3, wipe");
        wiping();
        CHECK.begin("promise 4, fault: forms");
        faultForms();
        CHECK.begin("promise 4, fault: things");
        faultThings();
        CHECK.begin("promise 5, lay");
        laying();
        CHECK.begin("promise 5, lay: not as things stand");
        laidAsToldLater();
        CHECK.begin("promise 6, person");
        persons();
        CHECK.begin("promise 7, thing");
        things();
        CHECK.begin("promise 8, pays");
        rates();
        CHECK.begin("promise 9, sell");
        selling();
        CHECK.begin("promise 10, buyBack");
        buyingBack();
        CHECK.begin("promise 11, pass");
        passing();
        CHECK.begin("promise 12, undo");
        undoing();
    }

    private static void whatComes() {
        CHECK.begin("promise 13, behind");
        behindDays();
        CHECK.begin("promise 14, heard");
        hearing();
        CHECK.begin("promise 15, sum");
        sums();
        CHECK.begin("promise 15, sum: the edge");
        sumAtTheEdge();
        CHECK.begin("promise 16, take");
        taking();
        CHECK.begin("promise 17, when");
        bestDay();
        CHECK.begin("promise 18, pair");
        pairs();
        CHECK.begin("promise 19, swap");
        swapping();
    }

    private static void looksAndYears() {
        CHECK.begin("promise 20, see");
        seeing();
        CHECK.begin("promise 21, forget");
        forgetting();
        CHECK.begin("promise 22, kinds");
        kindsSeen();
        CHECK.begin("promise 23, sure");
        sureness();
        CHECK.begin("promise 24, fine");
        fines();
        CHECK.begin("promise 25, whims");
        whimsOfDays();
        CHECK.begin("promise 26, year");
        years();
        CHECK.begin("promise 27, keep");
        keeping();
        CHECK.begin("promise 28, back");
        backing();
        CHECK.begin("promise 29, count");
        counting();
    }

    public static void main(String[] args) {
        shopsAndActs();
        whatComes();
        looksAndYears();
        CHECK.close();
    }
}
