/** Terms, ==== 2 and 3: days by draws, deeds told in a tray, what can be undone, seasons; at each bound and just beyond it. */
public final class DrawEdgesTest {
    private static final Checks CHECKS = new Checks("DrawEdgesTest");
    private static final int MIN = Integer.MIN_VALUE;
    private static final int MAX = Integer.MAX_VALUE;
    // Each buyer buys the kind of its own number; the last kind is never bought, so that it stays open.
    private static final String OWN = "kind price 1;kind price 2;kind price 3;kind price 4;kind price 5;kind price 6;kind price 99;"
        + "lets : who = kind;wants : 1;";
    // Six buyers and eight kinds; whoever comes buys kind 0, which is left open by the others.
    private static final String EIGHT = "shop;" + "kind price 5;".repeat(8) + "buyer purse 9;".repeat(6);

    public static void main(String[] args) {
        draws();
        drawnByOdds();
        nobodyComes();
        howManyDays();
        daysOfShut();
        toldNumbers();
        toldNumbersOfShut();
        toldDeedsAreDeeds();
        toldBySorts();
        tillOneCant();
        undoneCalls();
        undoneAtMostTen();
        undoneAsAWhole();
        notUndone();
        seasonsByCalls();
        CHECKS.end();
    }

    private static void due(String call, long got, long want) {
        CHECKS.due(call, got, want);
    }

    private static int drawn(int x) {
        return 1103515245 * x + 12345;
    }

    // ---- days

    private static final int[] SEEDS = {0, 1, 2, 3, 4, 5, -1, -2, 100, 12345, -12345, 65535, 65536, 1 << 30, MIN, MIN + 1, MAX, MAX - 1,
        0x7fff0000, 0xffff0000, 777777777, -777777777};

    private static void draws() {
        CHECKS.about("x (an int, 0 at first; told by a call) becomes 1103515245 x + 12345");
        due("seed of a new object", new OneOfEach().seed(9), 0);
        OneOfEach x = Checks.shop("shop;kind price 1;buyer purse 0;");
        for (int seed : SEEDS) {
            int want = seed;
            x.seed(seed);
            for (int i = 0; i < 4; i++) {
                x.days(1);
                want = drawn(want);
                due("x from " + seed + " on", Checks.xOf(x), want);
            }
        }
        CHECKS.about("8: x is this: what it was");
        OneOfEach y = Checks.shop("shop;");
        int was = 0;
        for (int seed : SEEDS) {
            due("seed(" + seed + ")", y.seed(seed), was);
            was = seed;
        }
    }

    private static void drawnByOdds() {
        CHECKS.about("DRAW modulo the odds of all together: the first BUYER whose odds and those of all ahead are above that");
        int[][] odds = {{2, 0, 3}, {0, 1}, {1, 0}, {9, 9, 9, 9, 9, 9}, {0, 0, 0, 0, 0, 1}, {1}, {0, 4, 0, 5, 0}, {9, 8, 7, 6, 5, 4}};
        for (int[] row : odds) {
            StringBuilder text = new StringBuilder("shop;");
            int together = 0;
            for (int each : row) {
                text.append("buyer purse 9 odds ").append(each).append(";");
                together += each;
            }
            OneOfEach x = Checks.shop(text + OWN);
            due("odds together", x.count(8), together);
            x.image(0);
            for (int i = 0; i < 100; i++) {
                int seed = i < SEEDS.length ? SEEDS[i] : i * 40503001;
                x.seed(seed);
                int comer = comer(row, (drawn(seed) >>> 16) % together);
                due("days(1) by " + seed, x.days(1), 1);
                due("who came by " + seed, x.count(2), 1 << comer);
                x.restore(0);
            }
        }
    }

    private static int comer(int[] odds, int draw) {
        int left = draw;
        int b = 0;
        while (left >= odds[b]) {
            left -= odds[b];
            b++;
        }
        return b;
    }

    private static void nobodyComes() {
        CHECKS.about("nobody, no DRAW, if all odds are 0; DAY is 1 more");
        String[] texts = {"shop;kind price 1;buyer purse 9 odds 0;", "shop;kind price 1;buyer purse 9 odds 0;buyer purse 9 odds 0;",
            "shop;kind price 1;", "shop;"};
        for (String text : texts) {
            OneOfEach x = Checks.shop(text);
            x.seed(77);
            due("days(3)", x.days(3), 0);
            due("DAY", x.count(7), 3);
            due("x", Checks.xOf(x), 77);
            due("sold", x.count(2), 0);
            due("calls", x.count(9), 2);
        }
        CHECKS.about("who buys nothing, comes for nothing; DAY is 1 more");
        OneOfEach y = Checks.shop("shop;kind price 10;buyer purse 9;");
        due("days(2)", y.days(2), 0);
        due("DAY", y.count(7), 2);
        due("x", Checks.xOf(y), drawn(drawn(0)));
        due("till", y.count(5), 0);
    }

    private static void howManyDays() {
        CHECKS.about("14: n DAYS (1 to 99) go by: how many things were bought");
        for (int n : new int[] {1, 2, 98, 99}) {
            OneOfEach x = Checks.shop("shop;kind price 2;kind price 99;buyer purse 9;");
            due("days(" + n + ")", x.days(n), n);
            due("DAY", x.count(7), n);
            due("till", x.count(5), 2 * n);
            due("calls", x.count(9), 1);
            int want = 0;
            for (int i = 0; i < n; i++) {
                want = drawn(want);
            }
            due("x", Checks.xOf(x), want);
            due("undo(1), all of them", x.undo(1), 0);
            due("DAY", x.count(7), 0);
        }
        for (int n : new int[] {0, -1, 100, MIN, MAX}) {
            OneOfEach x = Checks.shop("shop;kind price 2;kind price 99;buyer purse 9;");
            due("days(" + n + ")", x.days(n), -3);
            due("DAY", x.count(7), 0);
        }
    }

    private static void daysOfShut() {
        CHECKS.about("A VISIT: if the shop isn't SHUT; DAY is 1 more");
        OneOfEach x = Checks.shop("shop;kind price 2;buyer purse 9;");
        due("days(5), one is bought", x.days(5), 1);
        due("DAY", x.count(7), 5);
        due("till", x.count(5), 2);
        due("days(2), shut", x.days(2), 0);
        due("DAY", x.count(7), 7);
        due("calls", x.count(9), 2);
        OneOfEach y = new OneOfEach();
        due("days(99) without a shop", y.days(99), 0);
        due("DAY", y.count(7), 99);
    }

    // ---- deeds told in a tray

    private static void judged(OneOfEach x, long number, int why) {
        Checks.tray(x, 0, number);
        due("judge(0, 0) of " + number, x.judge(0, 0), why == 0 ? -1 : 0);
        due("judge(0, 1) of " + number, x.judge(0, 1), why);
    }

    private static final long[] FAR = {MIN, MAX, 1L << 32, (1L << 32) - 1, (1L << 32) + 100, (1L << 32) + 1005, -(1L << 32) - 1,
        Long.MIN_VALUE, Long.MAX_VALUE, 10000, 65535, 65536};

    private static void toldNumbers() {
        CHECKS.about("DEEDS in a TRAY: 0 to 9, 100 to 109, 200 to 209, 1000 to 1999, NONE: a DAY (always can be); others: 1");
        OneOfEach x = Checks.shop(EIGHT);
        int tried = 0;
        for (int v = -20; v <= 2120; v++) {
            boolean visit = v >= 0 && v < 6;
            boolean gift = v >= 100 && v < 108;
            boolean hide = v >= 200 && v < 208;
            boolean price = v >= 1000 && v < 1800 && v % 100 != 0;
            judged(x, v, visit || gift || hide || price || v == -1 ? 0 : 1);
            tried++;
            if (tried % 100 == 0) {
                x = Checks.shop(EIGHT);
            }
        }
        for (long v : FAR) {
            judged(x, v, 1);
        }
    }

    private static void toldNumbersOfShut() {
        CHECKS.about("DEEDS in a TRAY, the shop being SHUT: 1 goes ahead of 2; a DAY always can be");
        OneOfEach x = Checks.shop("shop;kind price 5 sold;kind price 5 hidden;buyer purse 9;");
        int[] shut = {0, 100, 101, 200, 201, 1001, 1099, 1101, 1199};
        int[] none = {1, 9, 10, 99, 102, 109, 110, 199, 202, 209, 210, 999, 1000, 1100, 1200, 1201, 1999, 2000, -2};
        for (int v : shut) {
            judged(x, v, 2);
        }
        for (int v : none) {
            judged(x, v, 1);
        }
        judged(x, -1, 0);
        CHECKS.about("DEEDS in a TRAY: 3 it buys nothing");
        OneOfEach y = Checks.shop("shop;kind price 5;buyer purse 9;buyer purse 4;");
        judged(y, 1, 3);
        judged(y, 2, 1);
        judged(y, 0, 0);
    }

    private interface Deed {
        long on(OneOfEach x);
    }

    private static void alike(int number, Deed deed) {
        String text = "shop;kind price 5;kind price 6 hidden;kind price 7;buyer purse 9;buyer purse 8 odds 3;wants : 20 - price - sold * 9;";
        OneOfEach x = Checks.shop(text);
        OneOfEach y = Checks.shop(text);
        Checks.tray(x, 0, number);
        due("judge(0, 0) of " + number, x.judge(0, 0), -1);
        int sold = x.judge(0, 2);
        int till = x.judge(0, 3);
        due("perform of " + number, x.perform(0), 1);
        deed.on(y);
        CHECKS.same("behind " + number, Twins.shop(x), Twins.shop(y));
        due("x behind " + number, Checks.xOf(x), Checks.xOf(y));
        due("judge(0, 2) of " + number, sold, x.count(2));
        due("judge(0, 3) of " + number, till, x.count(5));
    }

    private static void toldDeedsAreDeeds() {
        CHECKS.about("DEEDS in a TRAY: BUYER v makes a VISIT; a GIFT of KIND v - 100; KIND v - 200 is HIDDEN, or no more; "
            + "KIND (v - 1000) by 100 has PRICE v modulo 100; NONE: a DAY");
        for (int i = 0; i < 3; i++) {
            int k = i;
            alike(100 + k, x -> x.gift(k));
            alike(200 + k, x -> x.hide(k));
            alike(1001 + 100 * k, x -> x.price(k, 1));
            alike(1050 + 100 * k, x -> x.price(k, 50));
            alike(1099 + 100 * k, x -> x.price(k, 99));
        }
        alike(0, x -> x.visit(0));
        alike(1, x -> x.visit(1));
        alike(-1, x -> x.days(1));
    }

    private static void toldBySorts() {
        CHECKS.about("DEEDS in a TRAY of each sort: NONE is a DAY in all of them");
        long[] nones = {255, 65535, (1L << 32) - 1, -1};
        for (int sort = 0; sort < 4; sort++) {
            OneOfEach x = Checks.shop(EIGHT);
            x.numbers(0, sort, 2);
            due("write", x.write(0, 0, nones[sort]), -1);
            due("write", x.write(0, 1, 105), 105);
            due("judge", x.judge(0, 0), -1);
            due("perform", x.perform(0), 2);
            due("DAY", x.count(7), 1);
            due("GIFTS", x.count(6), 1);
        }
        OneOfEach y = Checks.shop(EIGHT);
        y.numbers(0, 0, 1);
        due("200 of 8 bits", y.write(0, 0, 200), -56);
        due("is no deed", y.judge(0, 1), 1);
        due("256 of 8 bits", y.write(0, 0, 256), 0);
        due("is a visit", y.judge(0, 1), 0);
    }

    private static void tillOneCant() {
        CHECKS.about("16: the first place that can't be (NONE), why (0), KINDS SOLD then, the till then; 17: till one can't be");
        OneOfEach x = Checks.shop("shop;kind price 5;kind price 6;buyer purse 9;buyer purse 3;lets : sold = 0;");
        x.numbers(0, 3, 40);
        for (int i = 0; i < 40; i++) {
            x.write(0, i, 100);
        }
        due("40 deeds", x.judge(0, 0), -1);
        due("why", x.judge(0, 1), 0);
        x.write(0, 39, 1);
        due("the last can't be", x.judge(0, 0), 39);
        due("why", x.judge(0, 1), 3);
        x.write(0, 0, 0);
        due("sold then", x.judge(0, 2), 1);
        due("the till then", x.judge(0, 3), 5);
        x.write(0, 20, 0);
        due("shut behind 20", x.judge(0, 0), 21);
        due("why", x.judge(0, 1), 2);
        due("sold then", x.judge(0, 2), 3);
        due("the till then", x.judge(0, 3), 11);
        due("perform", x.perform(0), 21);
        due("GIFTS", x.count(6), 19);
        due("sold", x.count(2), 3);
        due("calls", x.count(9), 1);
        due("judge, shut: the first can't be", x.judge(0, 0), 0);
        due("sold then", x.judge(0, 2), 3);
        due("the till then", x.judge(0, 3), 11);
        due("undo(1)", x.undo(1), 0);
        due("GIFTS", x.count(6), 0);
        x.numbers(1, 0, 0);
        due("no deeds: judge(1, 0)", x.judge(1, 0), -1);
        due("why", x.judge(1, 1), 0);
        due("sold", x.judge(1, 2), 0);
        due("perform(1)", x.perform(1), 0);
        x.write(0, 0, 7);
        due("perform, the first can't be", x.perform(0), 0);
        due("calls", x.count(9), 0);
    }

    // ---- what can be undone

    private static void undoneCalls() {
        CHECKS.about("UNDONE: KINDS, what was SOLD, HIDDEN, PRICES, the till, GIFTS, DAY, x");
        String text = "shop;kind price 5;kind price 6 hidden;kind price 7;kind price 99;buyer purse 9;buyer purse 8 odds 3;"
            + "wants : 20 - price - sold * 9;";
        Deed[] deeds = {x -> x.visit(1), x -> x.gift(2), x -> x.hide(1), x -> x.hide(0), x -> x.add(8, 3), x -> x.price(0, 70),
            x -> x.days(4), x -> x.seed(99), x -> x.season(8, 5)};
        for (int first = 0; first < 9; first++) {
            OneOfEach x = Checks.shop(text);
            x.seed(31);
            String ahead = Twins.shop(x);
            deeds[first].on(x);
            due("calls behind deed " + first, x.count(9), 2);
            String between = Twins.shop(x);
            int drawn = Checks.xOf(x);
            deeds[(first + 4) % 9].on(x);
            due("undo(1)", x.undo(1), 2);
            CHECKS.same("behind an undo of deed " + (first + 4) % 9, Twins.shop(x), between);
            due("x", Checks.xOf(x), drawn);
            due("undo(1)", x.undo(1), 1);
            CHECKS.same("behind an undo of deed " + first, Twins.shop(x), ahead);
            due("x", Checks.xOf(x), 31);
            due("undo(2), one can be", x.undo(2), -3);
            due("undo(1)", x.undo(1), 0);
            due("undo(1), none can be", x.undo(1), -3);
        }
    }

    private static void undoneAtMostTen() {
        CHECKS.about("10 at most (eldest are forgotten), the latest first");
        for (int deeds = 0; deeds <= 25; deeds++) {
            int can = Math.min(deeds, 10);
            for (int n = 0; n <= 11; n++) {
                OneOfEach x = Checks.shop("shop;kind price 5;");
                for (int i = 0; i < deeds; i++) {
                    x.gift(0);
                }
                due("calls behind " + deeds, x.count(9), can);
                boolean so = n >= 1 && n <= can;
                due("undo(" + n + ") of " + deeds, x.undo(n), so ? can - n : -3);
                due("GIFTS then", x.count(6), so ? deeds - n : deeds);
                due("calls then", x.count(9), so ? can - n : can);
            }
        }
        OneOfEach x = Checks.shop("shop;kind price 5;");
        int gifts = 0;
        for (int round = 0; round < 12; round++) {
            for (int i = 0; i < 7; i++) {
                x.gift(0);
            }
            x.undo(5);
            gifts += 2;
            due("GIFTS behind round " + round, x.count(6), gifts);
            due("calls", x.count(9), Math.min(2 * round + 2, 5));
        }
        due("undo(5)", x.undo(5), 0);
        due("GIFTS", x.count(6), gifts - 5);
    }

    private static void undoneAsAWhole() {
        CHECKS.about("Calls that did some can be UNDONE each as a whole");
        OneOfEach x = Checks.shop("shop;kind price 5;kind price 6;kind price 99;buyer purse 9;");
        String ahead = Twins.shop(x);
        Checks.tray(x, 0, 0, 100, 201, 1007, -1, 101);
        due("perform", x.perform(0), 6);
        due("calls", x.count(9), 1);
        due("undo(1)", x.undo(1), 0);
        CHECKS.same("as it was", Twins.shop(x), ahead);
        due("days(50)", x.days(50), 50);
        due("calls", x.count(9), 1);
        due("season(3, 40)", x.season(3, 40) > 1 ? 1 : 0, 1);
        due("calls", x.count(9), 2);
        due("undo(2)", x.undo(2), 0);
        CHECKS.same("as it was", Twins.shop(x), ahead);
        due("x", Checks.xOf(x), 0);
    }

    private static void notUndone() {
        CHECKS.about("Calls that did some can be UNDONE: no others");
        OneOfEach x = Checks.shop("shop;kind price 5;kind price 6;buyer purse 9;");
        x.gift(0);
        x.visit(5);
        x.hide(9);
        x.add(0, 0);
        x.price(0, 0);
        x.days(0);
        x.undo(2);
        x.numbers(0, 0, 2);
        x.write(0, 0, 9);
        x.judge(0, 0);
        x.perform(0);
        x.season(1, 0);
        x.ending();
        x.lists(0);
        x.image(0);
        x.bestPrice(0, 1);
        x.feed(0, 0, 0, 0, 0);
        x.shop(20);
        due("calls", x.count(9), 1);
        due("undo(1)", x.undo(1), 0);
        due("GIFTS", x.count(6), 0);
        CHECKS.about("3: nothing can be UNDONE; IMAGES: nothing can be UNDONE behind");
        x.gift(0);
        due("a text with a fault", Checks.tell(x, "shop"), -32);
        due("calls", x.count(9), 1);
        Checks.tell(x, "shop;kind price 5;");
        due("calls behind a shop", x.count(9), 0);
        due("undo(1)", x.undo(1), -3);
        x.gift(0);
        x.image(0);
        due("calls behind an image", x.count(9), 1);
        x.restore(1);
        due("calls behind a refused restore", x.count(9), 1);
        x.restore(0);
        due("calls behind a restore", x.count(9), 0);
        due("undo(1)", x.undo(1), -3);
        due("GIFTS", x.count(6), 1);
        x.gift(0);
        due("undo(1)", x.undo(1), 0);
        due("GIFTS", x.count(6), 1);
    }

    // ---- seasons

    /** What a season does, told again by single calls. */
    private static int byCalls(OneOfEach y, int seed, int times) {
        int could = 0;
        y.seed(seed);
        for (int i = 0; i < times; i++) {
            int x = drawn(Checks.xOf(y));
            int deed = (x >>> 16) % 5;
            long answer;
            if (deed < 2) {
                y.seed(x);
                answer = y.days(1);
            } else {
                x = drawn(x);
                int whom = x >>> 16;
                y.seed(x);
                answer = deed == 2 ? y.visit(whom % 6) : deed == 3 ? y.gift(whom % 8) : y.hide(whom % 8);
            }
            could += answer >= 0 ? 1 : 0;
        }
        return could;
    }

    private static void seasonsByCalls() {
        CHECKS.about("A SEASON by a SEED (x is that): so many times (1 to 40): DRAW modulo 5: 0, 1 a DAY; 2 a VISIT of BUYER DRAW modulo 6; "
            + "3 a GIFT of KIND DRAW modulo 8; 4 KIND DRAW modulo 8 HIDDEN, or no more; as in a TRAY, if it can be");
        String[] texts = {EIGHT + "lets : sold = 0;", "shop;" + OWN + "buyer purse 9;buyer purse 5 odds 2;buyer purse 1;", "shop;",
            "shop;kind price 5;buyer purse 9;", "shop;" + OWN + "buyer purse 9 odds 0;", "shop;kind price 3 sold;buyer purse 9;"};
        int[] times = {1, 2, 3, 39, 40};
        for (String text : texts) {
            for (int i = 0; i < 60; i++) {
                int seed = i < SEEDS.length ? SEEDS[i] : i * 7654321;
                OneOfEach x = Checks.shop(text);
                OneOfEach y = Checks.shop(text);
                x.seed(8);
                int n = times[i % times.length];
                int could = byCalls(y, seed, n);
                due("season(" + seed + ", " + n + ")", x.season(seed, n), could);
                due("x", Checks.xOf(x), could > 0 ? Checks.xOf(y) : 8);
                due("calls", x.count(9), could > 0 ? 2 : 1);
                for (int what = 0; what < 8; what++) {
                    due("count(" + what + ")", x.count(what), y.count(what));
                }
            }
        }
    }
}
