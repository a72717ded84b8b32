/** Long runs of mixed calls, each answered by the class and by the plain model. */
public final class ModelTest {
    private static final int RUNS = 1500, CALLS = 500, KINDS_OF_CALLS = 29;
    private static long seed = 20261119;

    private static int draw(int below) {
        seed = seed * 6364136223846793005L + 1442695040888963407L;
        return (int) ((seed >>> 33) % below);
    }

    /** A number from low to high, now and then one just outside or far away. */
    private static int about(int low, int high) {
        switch (draw(40)) {
            case 0:
                return low - 1;
            case 1:
                return high + 1;
            case 2:
                return draw(2) == 0 ? Integer.MIN_VALUE : Integer.MAX_VALUE;
            case 3:
                return low;
            case 4:
                return high;
            default:
                return low + draw(high - low + 1);
        }
    }

    private static String number(int low, int high) {
        int n = low + draw(high - low + 1);
        return n < 10 && draw(6) == 0 ? "0" + n : "" + n;
    }

    private static String item(int persons) {
        switch (draw(8)) {
            case 0:
                return "a" + number(0, 99) + ";";
            case 1:
            case 2:
                return "x" + number(0, 9) + ";";
            case 3:
                return "s" + number(0, 99) + "," + number(0, draw(3) == 0 ? 20 : 6) + ";";
            default:
                return "u" + number(0, Math.max(0, persons - 1)) + "," + number(0, 3) + "," + number(1, 20) + ","
                    + number(0, draw(2) == 0 ? 20 : 4) + ";";
        }
    }

    private static String soundText() {
        StringBuilder text = new StringBuilder();
        int persons = 1 + draw(5);
        for (int i = 0; i < persons; i++) {
            text.append("a").append(number(0, 99)).append(";");
        }
        int items = draw(16);
        for (int i = 0; i < items; i++) {
            text.append(item(persons));
        }
        return text.toString();
    }

    /** A text that now and then has a fault: a sign too many, too few, or another. */
    private static String anyText() {
        StringBuilder text = new StringBuilder(draw(30) == 0 ? "" : soundText());
        int faults = draw(3) == 0 ? 1 + draw(2) : 0;
        String signs = "aauxs0123456789,;; b~A";
        for (int i = 0; i < faults && text.length() > 0; i++) {
            int place = draw(text.length());
            char sign = signs.charAt(draw(signs.length()));
            switch (draw(3)) {
                case 0:
                    text.setCharAt(place, sign);
                    break;
                case 1:
                    text.insert(place, sign);
                    break;
                default:
                    text.deleteCharAt(place);
            }
        }
        return text.toString();
    }

    private final Check check;
    private final ForgoneShop shop = new ForgoneShop();
    private final PlainModel model = new PlainModel();
    private final int run;
    private int calls;

    private ModelTest(Check check, int run) {
        this.check = check;
        this.run = run;
    }

    private void same(String call, long got, long want) {
        calls++;
        check.same("run " + run + ", call " + calls + ": " + call, got, want);
    }

    private void writeAll(String text) {
        for (int i = 0; i < text.length(); i++) {
            same("write", shop.write(text.charAt(i)), model.write(text.charAt(i)));
        }
    }

    private void layAnew() {
        same("wipe", shop.wipe(), model.wipe());
        writeAll(anyText());
        same("fault", shop.fault(), model.fault());
        same("lay", shop.lay(), model.lay());
    }

    private void anyCall() {
        int kind = draw(KINDS_OF_CALLS);
        if (kind < 10) {
            shopCall(kind);
        } else if (kind < 18) {
            bestCall(kind);
        } else {
            lookCall(kind);
        }
    }

    private void shopCall(int kind) {
        int t = about(0, 7);
        int n = about(1, draw(4) == 0 ? 24 : 3);
        int p = about(0, 4);
        int what = about(0, 5);
        int far = about(0, 99);
        switch (kind) {
            case 0:
                same("person", shop.person(p, what), model.person(p, what));
                break;
            case 1:
                same("thing", shop.thing(t, what), model.thing(t, what));
                break;
            case 2:
                same("pays", shop.pays(far), model.pays(far));
                break;
            case 3:
            case 4:
                same("sell", shop.sell(t), model.sell(t));
                break;
            case 5:
                same("buyBack", shop.buyBack(t), model.buyBack(t));
                break;
            case 6:
            case 7:
                same("pass", shop.pass(n), model.pass(n));
                break;
            case 8:
                same("undo", shop.undo(), model.undo());
                break;
            default:
                int other = about(0, 12);
                same("count", shop.count(other), model.count(other));
        }
    }

    private void bestCall(int kind) {
        int t = about(0, 7);
        int part = about(0, 1);
        int n = about(0, 40);
        int few = about(0, 20);
        int p = about(0, 4);
        int h = about(1, draw(3) == 0 ? 999 : 120);
        int m = about(0, draw(3) == 0 ? 999 : 120);
        int v = about(2, draw(3) == 0 ? 198 : 40);
        int one = about(-1, 7);
        switch (kind) {
            case 10:
                same("behind", shop.behind(n, t), model.behind(n, t));
                break;
            case 11:
                same("heard", shop.heard(h), model.heard(h));
                break;
            case 12:
                same("sum", shop.sum(p, m, part), model.sum(p, m, part));
                break;
            case 13:
                same("take", shop.take(few, part), model.take(few, part));
                break;
            case 14:
                same("when", shop.when(t, part), model.when(t, part));
                break;
            case 15:
            case 16:
                same("pair", shop.pair(v), model.pair(v));
                break;
            default:
                same("swap", shop.swap(one), model.swap(one));
        }
    }

    private void lookCall(int kind) {
        int t = about(0, 7);
        int n = about(0, 20);
        int part = about(0, 1);
        switch (kind) {
            case 18:
            case 19:
                int v = draw(3) == 0 ? about(0, 99) : model.behind(Math.max(0, Math.min(n, 40)), t);
                same("see", shop.see(t, n, v), model.see(t, n, v));
                break;
            case 20:
                int go = draw(4);
                same("forget", go > 0 ? 0 : shop.forget(), go > 0 ? 0 : model.forget());
                break;
            case 21:
            case 22:
                same("kinds", shop.kinds(t), model.kinds(t));
                break;
            case 23:
                sureCall(part);
                break;
            case 24:
                int l = about(1, 4);
                same("fine", shop.fine(t, l), model.fine(t, l));
                break;
            case 25:
                whimsCall(t, part);
                break;
            case 26:
                int z = about(0, 9999);
                int days = about(1, 60);
                same("year", shop.year(z, days, part), model.year(z, days, part));
                break;
            case 27:
                same("keep", shop.keep(), model.keep());
                break;
            default:
                same("back", shop.back(), model.back());
        }
    }

    private void sureCall(int part) {
        int s = about(1, 9);
        int e = about(0, 9);
        int a = about(0, 4);
        int b = about(0, 4);
        same("sure", shop.sure(s, e, a, b, part), model.sure(s, e, a, b, part));
    }

    private void whimsCall(int t, int part) {
        int n = about(0, 8);
        int m = draw(8) == 0 ? 0 : about(0, 180);
        int x = about(0, 10);
        same("whims", shop.whims(t, n, m, x, part), model.whims(t, n, m, x, part));
    }

    private void play() {
        if (draw(5) > 0) {
            layAnew();
        }
        for (int i = calls; calls < CALLS && i < CALLS; i++) {
            if (draw(300) == 0 && calls < 280) {
                layAnew();
            } else {
                anyCall();
            }
        }
    }

    public static void main(String[] args) {
        Check check = new Check();
        for (int run = 0; run < RUNS; run++) {
            check.begin("model run " + run);
            new ModelTest(check, run).play();
        }
        check.close();
    }
}
