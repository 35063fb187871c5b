/** Terms, ==== 3, and promises 35 to 45: what was gone, who came, trays, images; at each bound and just beyond it. */
public final class TrayEdgesTest {
    private static final Checks CHECKS = new Checks("TrayEdgesTest");
    private static final int MIN = Integer.MIN_VALUE;
    private static final int MAX = Integer.MAX_VALUE;
    private static final String EIGHT = "kind price 1;kind price 2;kind price 3;kind price 4;kind price 5;kind price 6;kind price 7;kind price 8;";

    public static void main(String[] args) {
        seenHowMany();
        seenNumbers();
        seenOfEach();
        seenSets();
        seenShut();
        ask();
        askOfEverySet();
        cameHowMany();
        cameNumbers();
        who();
        traySizes();
        trayCuts();
        trayAnew();
        lists();
        imagesKeep();
        imagesOfLaws();
        imagesLeave();
        counts();
        manyCalls();
        CHECKS.end();
    }

    private static void due(String call, long got, long want) {
        CHECKS.due(call, got, want);
    }

    private static long[] times(int n, long number) {
        long[] row = new long[n];
        java.util.Arrays.fill(row, number);
        return row;
    }

    private static void sights(OneOfEach x, int sets, int sure, int ask, long... numbers) {
        String told = java.util.Arrays.toString(numbers);
        Checks.tray(x, 0, numbers);
        due("seen " + told, x.seen(0), sets);
        due("sureGone " + told, x.sureGone(0), sure);
        due("ask " + told, x.ask(0), ask);
    }

    private static void refused(OneOfEach x, int code, long... numbers) {
        sights(x, code, code, code, numbers);
    }

    // ---- what was gone

    private static void seenHowMany() {
        CHECKS.about("SEEN in a TRAY (1 to 12 numbers). -4: not 1 to 12 numbers");
        // The buyer buys kind 0 again and again; with kind 1 sold ahead it is shut behind the first time.
        OneOfEach x = Checks.shop("shop;kind price 1;kind price 99;buyer purse 9;");
        for (int n = 0; n <= 40; n++) {
            if (n >= 1 && n <= 12) {
                sights(x, n == 1 ? 3 : 2, 0, 0, times(n, 0));
            } else {
                refused(x, -4, times(n, 0));
            }
            if (n % 10 == 9) {
                x = Checks.shop("shop;kind price 1;kind price 99;buyer purse 9;");
            }
        }
        // Twelve are needed: it buys kinds 0 to 7, then comes for nothing.
        OneOfEach row = Checks.shop("shop;" + EIGHT + "buyer purse 9;lets : sold = 0;");
        sights(row, 1, 0, 0, 0, 1, 2, 3, 4, 5, 6, 7, 9, 9, 9, 9);
        sights(row, 0, 0, -1, 0, 1, 2, 3, 4, 5, 6, 7, 9, 9, 9, 0);
    }

    private static void seenNumbers() {
        CHECKS.about("SEEN: 10 times a BUYER, and the KIND it bought; 9: nothing. -3: one is none such");
        OneOfEach x = Checks.shop("shop;" + EIGHT + "buyer purse 9;".repeat(6) + "wants : 0 - 1;");
        for (int number = -12; number <= 130; number++) {
            boolean such = number >= 0 && number / 10 < 6 && number % 10 != 8;
            int sets = !such ? -3 : number % 10 == 9 ? 256 : 0;
            Checks.tray(x, 0, number);
            due("seen of " + number, x.seen(0), sets);
        }
        OneOfEach few = Checks.shop("shop;kind price 1;buyer purse 9;");
        for (int number = -2; number <= 22; number++) {
            boolean such = number == 0 || number == 9;
            Checks.tray(few, 0, number);
            due("seen of " + number, few.seen(0), such ? 1 : -3);
        }
        OneOfEach none = Checks.shop("shop;buyer purse 9;");
        sights(none, 1, 0, 0, 9);
        refused(none, -3, 0);
        refused(none, -3, 19);
        OneOfEach empty = Checks.shop("shop;kind price 1;");
        refused(empty, -3, 9);
        refused(empty, -3, 0);
    }

    private static void seenOfEach() {
        CHECKS.about("SEEN: 10 times a BUYER, and the KIND it bought; 9: nothing: of each BUYER and each KIND");
        // Each of six buys the kind of its own number, once; kinds 6 and 7 are never bought.
        OneOfEach x = Checks.shop("shop;" + EIGHT + "buyer purse 99;".repeat(6) + "lets : kind = who and sold = 0;");
        for (int b = 0; b < 6; b++) {
            for (int k = 0; k < 8; k++) {
                Checks.tray(x, 0, 10 * b + k);
                due("seen of " + (10 * b + k), x.seen(0), k == b ? 128 : 0);
            }
            sights(x, 128, 1 << b, b == 0 ? 1 : 0, 10 * b + 9);
        }
        CHECKS.about("SEEN: VISITS of these, one behind the other: behind nothing all is as it was");
        sights(x, 64, 2, 2, 19, 0);
        sights(x, 64, 2, 2, 19, 0, 9);
        sights(x, 64, 2, 2, 0, 19);
        sights(x, 0, 0, -1, 19, 0, 0);
    }

    private static void seenSets() {
        CHECKS.about("SEEN: sets of KINDS that can have been SOLD ahead; 36: KINDS in all of these sets, as bits (0 without any)");
        String text = "shop;kind price 1;kind price 2;kind price 3;buyer purse 9;buyer purse 9;lets : sold = 0 and kind > who - 1;";
        OneOfEach x = Checks.shop(text);
        // Buyer 0 buys kind 1: kind 0 was sold, kind 1 wasn't, kind 2 was or wasn't; then kind 2: it wasn't.
        sights(x, 2, 1, 0, 1);
        sights(x, 1, 1, 0, 1, 2);
        // Buyer 1 buys kind 2: kind 1 was sold; kind 0 was or wasn't.
        sights(x, 2, 2, 0, 12);
        sights(x, 1, 3, 0, 12, 9);
        sights(x, 0, 0, -1, 12, 12);
        sights(x, 1, 2, 0, 12, 0);
        // What was sold by now, and what is in the till, are no matter.
        x.visit(0);
        x.visit(0);
        sights(x, 2, 1, 0, 1);
        CHECKS.about("SEEN: sets of KINDS, HIDDEN ones, too");
        OneOfEach y = Checks.shop("shop;kind price 1;kind price 2 hidden;kind price 99;buyer purse 9;lets : sold = 0;");
        sights(y, 4, 0, 0, 0);
        sights(y, 4, 1, 0, 9);
        sights(y, 0, 0, -1, 1);
    }

    private static void seenShut() {
        CHECKS.about("SEEN: in a shop that was SHUT nothing is bought");
        OneOfEach x = Checks.shop("shop;kind price 1;kind price 2;buyer purse 9;buyer purse 2;wants : 9 - price;");
        // Whoever comes buys kind 0, but if both were sold.
        sights(x, 3, 0, 0, 0);
        sights(x, 1, 3, 0, 9);
        sights(x, 1, 3, 0, 9, 19, 9);
        sights(x, 2, 0, 0, 0, 0);
        sights(x, 1, 2, 0, 0, 9);
    }

    private static void ask() {
        CHECKS.about("37: the greatest number of these sets by which it would buy one and the same KIND then (or nothing) is least, the first");
        // Of eight sets, buyer 0 tells four from four; buyers 1 and 2 tell 1, 3, 3 and 1 apart, by how many are gone.
        OneOfEach x = Checks.shop("shop;kind price 1;kind price 1;kind price 1;buyer purse 1;buyer purse 2;buyer purse 2;buyer purse 0;"
            + "lets : who = 0 and kind = 0 and sold = 0 or who > 0 and kind = gone;wants : 1;");
        sights(x, 8, 0, 1, 39);
        // Buyer 0 bought nothing: kind 0 was sold. Buyer 1 tells 1, 2 and 1 apart, buyer 0 nothing.
        sights(x, 4, 1, 1, 9);
        // Buyer 1 bought nothing: it was shut.
        sights(x, 1, 7, 0, 19);
        // One was gone, behind it still one, or two: buyers 0 and 1 both tell one of these sets from two, the first is asked.
        sights(x, 3, 0, 0, 11);
        OneOfEach one = Checks.shop("shop;kind price 9;buyer purse 0;");
        sights(one, 2, 0, 0, 9);
    }

    private static void askOfEverySet() {
        CHECKS.about("37: the greatest number of these sets: the one of no KINDS, and that of all KINDS, count, too");
        String two = "shop;kind price 1;kind price 1;buyer purse 9;buyer purse 9;buyer purse 0;";
        // Buyer 0 buys kind 0, but if it is shut: three of four; buyer 1 tells two from two.
        sights(Checks.shop(two + "lets : kind = 0 and [ who = 0 or sold = 0 ];"), 4, 0, 1, 29);
        // Buyer 0 buys kind 0 of the first set alone.
        sights(Checks.shop(two + "lets : kind = 0 and [ who = 0 and gone = 0 or who = 1 and sold = 0 ];"), 4, 0, 1, 29);
        // A buyer of the shop ahead would tell more; it is no more.
        OneOfEach x = Checks.shop(two + "lets : kind = 0 and [ who = 0 or sold = 0 ];");
        sights(x, 4, 0, 1, 29);
        Checks.tell(x, "shop;kind price 1;kind price 1;buyer purse 0;");
        sights(x, 4, 0, 0, 9);
        // 256 sets by which all buy the same, nothing.
        sights(Checks.shop("shop;" + EIGHT + "buyer purse 0;buyer purse 0;"), 256, 0, 0, 9);
    }

    // ---- who came

    private static void cameIs(OneOfEach x, long rows, long... numbers) {
        Checks.tray(x, 0, numbers);
        due("came " + java.util.Arrays.toString(numbers), x.came(0), rows);
    }

    private static void cameHowMany() {
        CHECKS.about("GONE in a TRAY (1 to 10 numbers; NONE: not seen, but something). -4: not 1 to 10 numbers");
        long rows = 1;
        for (int n = 0; n <= 40; n++) {
            OneOfEach x = Checks.shop("shop;kind price 1;kind price 99;" + "buyer purse 9;".repeat(6));
            rows = n >= 1 && n <= 10 ? rows * 6 : 1;
            cameIs(x, n >= 1 && n <= 10 ? rows : -4, times(n, -1));
            due("who", x.who(0, 0), n >= 1 && n <= 10 ? 63 : -4);
            cameIs(x, n >= 1 && n <= 10 ? rows : -4, times(n, 0));
            due("who at the last place", x.who(0, n - 1), n >= 1 && n <= 10 ? 63 : -4);
        }
        OneOfEach shut = Checks.shop("shop;kind price 1 sold;buyer purse 9;");
        cameIs(shut, 0, -1);
        cameIs(shut, 0, 0);
        OneOfEach one = Checks.shop("shop;kind price 1;buyer purse 9;");
        cameIs(one, 1, 0);
        cameIs(one, 1, -1);
        cameIs(one, 0, 0, 0);
        cameIs(one, 0, 0, -1);
    }

    private static void cameNumbers() {
        CHECKS.about("GONE: KINDS that were bought one behind the other; NONE. -3: one is no KIND, nor NONE");
        for (int kinds = 0; kinds <= 8; kinds++) {
            OneOfEach x = Checks.shop("shop;" + "kind price 1;".repeat(kinds) + "buyer purse 9;");
            for (int number = -3; number <= 10; number++) {
                boolean such = number >= -1 && number < kinds;
                cameIs(x, !such ? -3 : kinds > 0 && number <= 0 ? 1 : 0, number);
            }
        }
        CHECKS.about("GONE: rows of BUYERS whose VISITS from now on were so");
        OneOfEach y = Checks.shop("shop;kind price 1;kind price 2;kind price 3 hidden;buyer purse 9;buyer purse 1;buyer purse 0;lets : sold = 0;wants : 1;");
        cameIs(y, 2, 0);
        cameIs(y, 0, 1);
        cameIs(y, 0, 2);
        cameIs(y, 2, 0, 1);
        cameIs(y, 2, -1, -1);
        cameIs(y, 0, -1, 0);
        y.visit(0);
        cameIs(y, 1, 1);
        cameIs(y, 1, -1);
        cameIs(y, 0, 0);
    }

    private static void who() {
        CHECKS.about("39: BUYERS that may have come at a place, as bits; -7: no such place");
        OneOfEach x = Checks.shop("shop;kind price 1;kind price 2;kind price 3;buyer purse 9;buyer purse 1;buyer purse 2;lets : sold = 0;wants : price;");
        // Buyer 0 buys the dearest left, buyer 1 kind 0 alone, buyer 2 kind 1, then kind 0.
        Checks.tray(x, 0, -1, -1, -1);
        int[] any = {7, 7, 7};
        for (int place = 0; place < 3; place++) {
            due("who(0, " + place + ")", x.who(0, place), any[place]);
        }
        Checks.tray(x, 0, 2, 1, 0);
        int[] fixed = {1, 5, 7};
        for (int place = 0; place < 3; place++) {
            due("who(0, " + place + ")", x.who(0, place), fixed[place]);
        }
        Checks.tray(x, 0, -1, 2, -1);
        // 0: kind 0 by buyer 1, or kind 1 by buyer 2; then buyer 0 buys kind 2; then what is left by who can.
        int[] between = {6, 1, 7};
        for (int place = 0; place < 3; place++) {
            due("who(0, " + place + ")", x.who(0, place), between[place]);
        }
        Checks.tray(x, 0, 0, 0);
        due("rows", x.came(0), 0);
        due("nobody can have come", x.who(0, 0), 0);
        due("nobody can have come", x.who(0, 1), 0);
        for (int place : new int[] {-1, 2, 3, 40, MIN, MAX}) {
            due("who(0, " + place + ")", x.who(0, place), -7);
        }
    }

    // ---- trays

    private static void traySizes() {
        CHECKS.about("TRAYS 0 to 3 are MISSING at first, or have 0 to 40 numbers");
        for (int tray = -1; tray <= 4; tray++) {
            boolean such = tray >= 0 && tray <= 3;
            OneOfEach x = new OneOfEach();
            due("write(" + tray + ", 0, 1)", x.write(tray, 0, 1), such ? -6 : -2);
            due("numbers(" + tray + ", 0, -1)", x.numbers(tray, 0, -1), such ? -3 : -2);
            due("numbers(" + tray + ", 0, 41)", x.numbers(tray, 0, 41), such ? -3 : -2);
            due("still missing", x.write(tray, 0, 1), such ? -6 : -2);
            for (int n : new int[] {0, 1, 39, 40}) {
                due("numbers(" + tray + ", 0, " + n + ")", x.numbers(tray, 0, n), such ? 0 : -2);
                due("write at -1", x.write(tray, -1, 5), such ? -7 : -2);
                due("write at 0", x.write(tray, 0, 5), !such ? -2 : n > 0 ? 5 : -7);
                due("write at " + (n - 1), x.write(tray, n - 1, 6), !such ? -2 : n > 0 ? 6 : -7);
                due("write at " + n, x.write(tray, n, 7), such ? -7 : -2);
            }
            for (int other = 0; other <= 3; other++) {
                due("another one is missing", x.judge(other, 0), other == tray ? 0 : -6);
            }
        }
    }

    private static void trayCuts() {
        CHECKS.about("numbers of 8 bits (sort 0), 16 (1), 32 (2), 64 (3); 41: v, cut to its sort: as it is there");
        int[] bits = {8, 16, 32, 64};
        OneOfEach x = new OneOfEach();
        for (int sort = -1; sort <= 4; sort++) {
            due("numbers(0, " + sort + ", 1)", x.numbers(0, sort, 1), sort >= 0 && sort <= 3 ? 0 : -2);
        }
        for (int sort = 0; sort < 4; sort++) {
            x.numbers(sort, sort, 40);
            long top = 1L << bits[sort] - 1;
            due("the greatest", x.write(sort, 39, top - 1), top - 1);
            due("one more", x.write(sort, 39, top), -top);
            due("the least", x.write(sort, 39, -top), -top);
            due("one less", x.write(sort, 39, -top - 1), top - 1);
            due("all bits", x.write(sort, 39, 2 * top - 1), -1);
            due("none of them", x.write(sort, 39, 2 * top), 0);
            due("-1", x.write(sort, 39, -1), -1);
            due("0", x.write(sort, 39, 0), 0);
        }
        due("8 bits", x.write(0, 0, 0x123456789abcdef5L), 0xfffffffffffffff5L);
        due("16 bits", x.write(1, 0, 0x123456789abcdef5L), 0xffffffffffffdef5L);
        due("32 bits", x.write(2, 0, 0x123456789abcdef5L), 0xffffffff9abcdef5L);
        due("64 bits", x.write(3, 0, 0x123456789abcdef5L), 0x123456789abcdef5L);
    }

    private static void trayAnew() {
        CHECKS.about("40: A TRAY has n numbers of a sort, all 0 (in place of another one)");
        OneOfEach x = Checks.shop("shop;kind price 1;kind price 99;buyer purse 9;");
        for (int sort = 0; sort < 4; sort++) {
            x.numbers(2, sort, 40);
            for (int i = 0; i < 40; i++) {
                x.write(2, i, 77);
            }
            x.numbers(2, 3 - sort, 10);
            due("came: ten times kind 0", x.came(2), 1);
            x.numbers(2, sort, 40);
            due("judge: 40 visits of buyer 0", x.judge(2, 0), -1);
            due("the till then", x.judge(2, 3), 40);
        }
        Checks.tray(x, 0, 5, 6);
        x.numbers(1, 0, 3);
        due("another tray is as it was", x.judge(0, 0), 0);
        due("numbers(0, 0, 41)", x.numbers(0, 0, 41), -3);
        due("the tray stays", x.came(0), -3);
        due("its length stays", x.write(0, 1, 1L << 40), 1L << 40);
        due("its length stays", x.write(0, 2, 1), -7);
    }

    private static void lists() {
        CHECKS.about("42: BUYERS of the ENDING come into a TRAY, as far as it has places: how many. -5: there is none");
        // Each buys the kind of its own number: the ENDING is 0, 1, 2, 3.
        String text = "shop;kind price 1;kind price 1;kind price 1;kind price 1;" + "buyer purse 2;".repeat(4) + "lets : kind = who;";
        for (int sort = 0; sort < 4; sort++) {
            for (int n = 0; n <= 6; n++) {
                OneOfEach x = Checks.shop(text);
                x.numbers(1, sort, n);
                for (int i = 0; i < n; i++) {
                    x.write(1, i, 103);
                }
                due("lists, " + n + " places", x.lists(1), Math.min(n, 4));
                due("its deeds can be, up to the first behind it when it is shut", x.judge(1, 0), n > 4 ? 4 : -1);
                due("sold then", x.judge(1, 2), (1 << Math.min(n, 4)) - 1);
                due("perform", x.perform(1), Math.min(n, 4));
                due("shut", x.count(4), n >= 4 ? 1 : 0);
            }
        }
        OneOfEach shut = Checks.shop("shop;kind price 1 sold;buyer purse 2;");
        Checks.tray(shut, 0, 9, 9);
        due("lists, shut", shut.lists(0), 0);
        due("the tray stays", shut.judge(0, 1), 1);
        OneOfEach never = Checks.shop("shop;kind price 3;buyer purse 2;");
        Checks.tray(never, 0, -1, -1);
        due("lists, there is none", never.lists(0), -5);
        due("the tray stays", never.judge(0, 0), -1);
    }

    // ---- images

    private static void imagesKeep() {
        CHECKS.about("IMAGES 0 to 1: THE SHOP and what a call could bring back by UNDOING");
        OneOfEach x = Checks.shop(Twins.TEXT);
        x.seed(1234);
        x.days(1);
        x.gift(0);
        x.add(9, 9);
        x.price(0, 44);
        x.hide(4);
        String first = Twins.shop(x);
        int drawn = Checks.xOf(x);
        due("image(0)", x.image(0), 0);
        Checks.tell(x, "shop;kind price 7 sold;kind price 8;buyer purse 90 odds 7;wants : kind;lets : price > 3;");
        x.seed(-5);
        x.days(2);
        String second = Twins.shop(x);
        due("image(1)", x.image(1), 0);
        Checks.tell(x, "shop;");
        due("restore(0)", x.restore(0), 0);
        CHECKS.same("image 0", Twins.shop(x), withoutCalls(first));
        due("x", Checks.xOf(x), drawn);
        due("restore(1)", x.restore(1), 0);
        CHECKS.same("image 1", Twins.shop(x), withoutCalls(second));
        x.gift(1);
        due("restore(1) again", x.restore(1), 0);
        CHECKS.same("image 1 again", Twins.shop(x), withoutCalls(second));
        due("restore(0) again", x.restore(0), 0);
        CHECKS.same("image 0 again", Twins.shop(x), withoutCalls(first));
        due("image(1) in place of another", x.image(1), 0);
        x.visit(1);
        x.restore(1);
        CHECKS.same("image 1 is image 0 now", Twins.shop(x), withoutCalls(first));
    }

    private static void imagesOfLaws() {
        CHECKS.about("IMAGES: THE SHOP, with its laws");
        String ahead = "shop;kind price 1;kind price 2;buyer purse 9;";
        String[] texts = {ahead, ahead + "wants : 5;lets : kind = 0;", ahead + "wants : 1;lets : 1 = 1;wants : 6 - 1 + 1;lets : kind = 1;",
            ahead + "lets : kind = 1;", ahead + "wants : 7 * 2;"};
        int[] wants = {8, 5, 6, 8, 14};
        int[] lets = {3, 1, 2, 2, 3};
        for (int i = 0; i < texts.length; i++) {
            for (int j = 0; j < texts.length; j++) {
                OneOfEach x = Checks.shop(texts[i]);
                x.image(0);
                Checks.tell(x, texts[j]);
                x.image(1);
                x.restore(0);
                due("wants(0, 0) of text " + i + " behind " + j, x.wants(0, 0), wants[i]);
                due("buyer(0, 3) of text " + i + " behind " + j, x.buyer(0, 3), lets[i]);
                x.restore(1);
                due("wants(0, 0) of text " + j + " behind " + i, x.wants(0, 0), wants[j]);
                due("buyer(0, 3) of text " + j + " behind " + i, x.buyer(0, 3), lets[j]);
            }
        }
    }

    /** Nothing can be undone behind. */
    private static String withoutCalls(String told) {
        return told.replaceAll("count\\(9\\)=[0-9]+", "count(9)=0");
    }

    private static void imagesLeave() {
        CHECKS.about("44: All that is in an IMAGE is as it was: nothing else");
        OneOfEach x = new OneOfEach();
        due("image(0) of a new object", x.image(0), 0);
        Checks.tell(x, "shop;kind price 5;kind price 6;buyer purse 7;");
        due("a fault", Checks.tell(x, "shop;?"), -31);
        x.feed(1, 2, 3, 4, 5);
        Checks.tray(x, 2, 9);
        x.gift(0);
        x.image(1);
        due("restore(0)", x.restore(0), 0);
        due("kinds", x.count(0), 0);
        due("buyers", x.count(1), 0);
        due("shut", x.count(4), 1);
        due("lines", x.count(11), 0);
        due("GIFTS", x.count(6), 0);
        due("fault(0) stays", x.fault(0), 1);
        due("fault(1) stays", x.fault(1), 5);
        due("the tape stays", x.count(10), 20);
        due("the tray stays", x.judge(2, 1), 1);
        due("the other image stays", x.restore(1), 0);
        due("GIFTS", x.count(6), 1);
        due("kinds", x.count(0), 2);
    }

    private static void counts() {
        CHECKS.about("45: KINDS, BUYERS, SOLD, HIDDEN, SHUT, the till, GIFTS, DAY, odds, calls, bytes, LINES. NONE for others");
        OneOfEach x = Twins.open();
        int[] counts = {5, 3, 9, 20, 0, 4, 3, 0, 3, 10, 60, 9};
        for (int what = -2; what <= 14; what++) {
            due("count(" + what + ")", x.count(what), what >= 0 && what < 12 ? counts[what] : -1);
        }
        due("count(MIN)", x.count(MIN), -1);
        due("count(MAX)", x.count(MAX), -1);
        OneOfEach most = Checks.shop("shop;" + "kind price 1 sold hidden;".repeat(8) + "buyer purse 1 odds 9;".repeat(6));
        int[] all = {8, 6, 255, 255, 1, 0, 0, 0, 54, 0, 0, 15};
        for (int what = 0; what < 12; what++) {
            due("count(" + what + ")", most.count(what), all[what]);
        }
    }

    private static void manyCalls() {
        CHECKS.about("An object is used for at most 512 calls after it has been made");
        OneOfEach x = new OneOfEach();
        int lines = Checks.tell(x, "shop;kind price 99;kind price 98;buyer purse 999;wants : 1;");
        due("lines", lines, 5);
        for (int call = 5; call < 512; call++) {
            due("visit(0), call " + call, x.visit(0), 0);
        }
        due("the till by the 512th", x.count(5), 507 * 99);
    }
}
