/** Terms, ==== 2: laws, when it is shut, visits, gifts, kinds hidden, added, priced anew; at each bound and just beyond. */
public final class DeedEdgesTest {
    private static final Checks CHECKS = new Checks("DeedEdgesTest");
    private static final String MILLION = "(999 + 1) * (999 + 1)";

    public static void main(String[] args) {
        facts();
        kept();
        keptInTruths();
        sixWithin();
        withoutLaws();
        may();
        now();
        fewerThanAhead();
        shutOrNot();
        shutByDeeds();
        visitWants();
        visitAgain();
        gifts();
        hidden();
        added();
        pricedAnew();
        CHECKS.end();
    }

    private static void due(String call, long got, long want) {
        CHECKS.due(call, got, want);
    }

    private static int bits(int... kinds) {
        int bits = 0;
        for (int k : kinds) {
            bits |= 1 << k;
        }
        return bits;
    }

    // ---- laws

    private static void facts() {
        CHECKS.about("who, purse, mind: the BUYER's number, PURSE, mind, kind, price, group: the KIND's number, PRICE, group");
        String kinds = "shop;kind price 1 group 9;kind price 2;kind price 3;kind price 4;kind price 5;kind price 6;kind price 7;"
            + "kind price 99 group 8 sold;";
        String buyers = "buyer purse 0 mind 9;buyer purse 1;buyer purse 2;buyer purse 3;buyer purse 4;buyer purse 999 mind 7;";
        String[] words = {"who", "purse", "mind", "kind", "price", "group", "gone", "sold"};
        int[] first = {0, 0, 9, 0, 1, 9, 1, 0};
        int[] last = {5, 999, 7, 7, 99, 8, 1, 1};
        for (int i = 0; i < words.length; i++) {
            OneOfEach x = Checks.shop(kinds + buyers + "wants : " + words[i] + ";");
            due(words[i] + " of the first ones", x.wants(0, 0), first[i]);
            due(words[i] + " of the last ones", x.wants(5, 7), last[i]);
        }
        CHECKS.about("gone: how many KINDS were SOLD, sold: 1 if this one was, else 0");
        for (int sold = 0; sold <= 8; sold++) {
            OneOfEach x = Checks.shop("shop;" + "kind price 1 sold;".repeat(sold) + "kind price 1;".repeat(8 - sold)
                + "buyer purse 1;wants : gone * 10 + sold;");
            due("wants of the first, " + sold + " are sold", x.wants(0, 0), sold * 10 + (sold > 0 ? 1 : 0));
            due("wants of the last, " + sold + " are sold", x.wants(0, 7), sold * 10 + (sold == 8 ? 1 : 0));
        }
        OneOfEach hid = Checks.shop("shop;kind price 1 sold hidden;kind price 1;buyer purse 1;wants : gone * 10 + sold;");
        due("a hidden one that was sold is gone, too", hid.wants(0, 1), 10);
        due("and sold", hid.wants(0, 0), 11);
        OneOfEach x = Checks.shop("shop;kind price 1;kind price 99;buyer purse 5;wants : gone * 10 + sold + 1;");
        x.visit(0);
        x.visit(0);
        due("sold twice, gone once", x.wants(0, 0), 12);
        x.gift(1);
        due("a gift isn't sold by it", x.wants(0, 1), 11);
    }

    private static void wanted(String law, int want) {
        OneOfEach x = Checks.shop("shop;kind price 1;buyer purse 1;wants : " + law + ";");
        due("wants : " + law, x.wants(0, 0), want);
    }

    private static void kept() {
        CHECKS.about("each + - * is kept from -1,000,000 to 1,000,000");
        String m = "(" + MILLION + ")";
        String least = "(0 - " + MILLION + ")";
        wanted(MILLION, 1000000);
        wanted(MILLION + " - 1", 999999);
        wanted(MILLION + " - 1 + 1", 1000000);
        wanted(MILLION + " - 1 + 2", 1000000);
        wanted(MILLION + " + 0", 1000000);
        wanted(MILLION + " + 1", 1000000);
        wanted(MILLION + " + 1 - 1", 999999);
        wanted(MILLION + " + 999 - 999", 999001);
        wanted("(999 + 1) * (999 + 2)", 1000000);
        wanted("(999 + 1) * (999 + 2) - 1", 999999);
        wanted("999 * (999 + 2)", 999999);
        wanted("999 * 999 * 999 - 999", 999001);
        wanted("0 - " + MILLION, -1000000);
        wanted("1 - " + MILLION, -999999);
        wanted("0 - " + MILLION + " - 0", -1000000);
        wanted("0 - " + MILLION + " - 1", -1000000);
        wanted("0 - " + MILLION + " - 1 + 1", -999999);
        wanted("0 - " + MILLION + " - 999 + 999", -999001);
        wanted("(0 - 999 - 1) * (999 + 1)", -1000000);
        wanted("(0 - 999 - 1) * (999 + 2)", -1000000);
        wanted("(0 - 999 - 1) * (999 + 2) + 1", -999999);
        wanted("(0 - 999) * (999 + 2)", -999999);
        wanted(m + " * " + m, 1000000);
        wanted(least + " * " + m, -1000000);
        wanted(m + " * " + least, -1000000);
        wanted(least + " * " + least, 1000000);
        wanted(m + " + " + m, 1000000);
        wanted(least + " + " + least, -1000000);
        wanted(m + " - " + least, 1000000);
        wanted(least + " - " + m, -1000000);
        wanted(m + " + " + least, 0);
        wanted(m + " * 0", 0);
        wanted(m + " * 2 * (0 - 1) + 1", -999999);
    }

    private static void held(String law, boolean holds) {
        OneOfEach x = Checks.shop("shop;kind price 1;buyer purse 1;lets : " + law + ";");
        due("lets : " + law, x.buyer(0, 3), holds ? 1 : 0);
    }

    private static void keptInTruths() {
        CHECKS.about("In both laws each + - * is kept from -1,000,000 to 1,000,000");
        held(MILLION + " + 1 = " + MILLION, true);
        held(MILLION + " + 1 > " + MILLION, false);
        held(MILLION + " - 1 < " + MILLION, true);
        held("0 - " + MILLION + " - 1 = 0 - " + MILLION, true);
        held("0 - " + MILLION + " + 1 > 0 - " + MILLION, true);
        held("999 * 999 * 999 = " + MILLION, true);
        CHECKS.about("one of = < >");
        held("5 = 5", true);
        held("5 = 4", false);
        held("5 < 5", false);
        held("4 < 5", true);
        held("5 > 5", false);
        held("5 > 4", true);
        held("0 - 5 < 4", true);
        CHECKS.about("TRUTH: BOTH { or BOTH }; BOTH: UNIT { and UNIT }; not UNIT");
        for (int i = 0; i < 8; i++) {
            boolean a = (i & 1) == 1;
            boolean b = (i & 2) == 2;
            boolean c = (i & 4) == 4;
            String p = a ? "1 = 1" : "1 = 2";
            String q = b ? "1 < 2" : "2 < 1";
            String r = c ? "2 > 1" : "1 > 2";
            held(p + " or " + q + " and " + r, a || b && c);
            held(p + " and " + q + " or " + r, a && b || c);
            held("[ " + p + " or " + q + " ] and " + r, (a || b) && c);
            held("not " + p + " and " + q, !a && b);
            held("not [ " + p + " and " + q + " ]", !(a && b));
            held("not " + p + " or not " + q + " and not not " + r, !a || !b && c);
            held(p + " or " + q + " or " + r, a || b || c);
            held(p + " and " + q + " and " + r, a && b && c);
        }
    }

    private static void sixWithin() {
        CHECKS.about("At most six of not [ ( within one another: each of them tells");
        String sum = "1 + 2 * 1";
        String truth = "1 = 1";
        String never = "1 = 2";
        int value = 3;
        for (int depth = 1; depth <= 6; depth++) {
            sum = "1 + 2 * (" + sum + ")";
            value = 1 + 2 * value;
            wanted(sum, value);
            truth = "1 = 2 or 1 = 1 and [" + truth + "]";
            never = "1 = 2 or 1 = 1 and [" + never + "]";
            held(truth, true);
            held(never, false);
            held("not ".repeat(depth) + "1 = 1", depth % 2 == 0);
        }
        held("not [ 1 = 2 or not [ 1 = 1 and 1 + 1 * (1 - 2 * (0 - 1)) = 4 ] ]", true);
        held("not [ 1 = 2 or not [ 1 = 1 and 4 < 1 + 1 * (1 - 2 * (0 - 1)) ] ]", false);
    }

    private static void withoutLaws() {
        CHECKS.about("A BUYER WANTS a KIND as much as the law wants tells (without one: PURSE less PRICE)");
        OneOfEach x = Checks.shop("shop;kind price 1;kind price 99 hidden;kind price 7 sold;buyer purse 0;buyer purse 999;buyer purse 7;");
        int[][] wants = {{-1, -99, -7}, {998, 900, 992}, {6, -92, 0}};
        for (int b = 0; b < 3; b++) {
            for (int k = 0; k < 3; k++) {
                due("wants(" + b + ", " + k + ")", x.wants(b, k), wants[b][k]);
            }
        }
        CHECKS.about("It MAY buy it, if the law lets holds (without one: always)");
        due("buyer(0, 3)", x.buyer(0, 3), 0);
        due("buyer(1, 3)", x.buyer(1, 3), bits(0, 2));
        due("buyer(2, 3)", x.buyer(2, 3), bits(0, 2));
    }

    private static void may() {
        CHECKS.about("It MAY buy it, if its PRICE isn't above the PURSE");
        OneOfEach x = Checks.shop("shop;kind price 4;kind price 5;kind price 6;buyer purse 5;buyer purse 3;buyer purse 6;wants : 5;");
        due("buyer(0, 3)", x.buyer(0, 3), bits(0, 1));
        due("buyer(1, 3)", x.buyer(1, 3), 0);
        due("buyer(2, 3)", x.buyer(2, 3), bits(0, 1, 2));
        due("visit(1), all too dear", x.visit(1), -13);
        x.price(2, 5);
        due("buyer(0, 3), priced anew", x.buyer(0, 3), bits(0, 1, 2));
        x.price(0, 6);
        due("buyer(0, 3), priced anew", x.buyer(0, 3), bits(1, 2));
        CHECKS.about("It MAY buy it, if the KIND isn't HIDDEN");
        x.hide(1);
        due("buyer(0, 3)", x.buyer(0, 3), bits(2));
        x.hide(1);
        due("buyer(0, 3)", x.buyer(0, 3), bits(1, 2));
        CHECKS.about("It MAY buy it, if the law lets holds");
        OneOfEach y = Checks.shop("shop;kind price 1;kind price 2 sold;kind price 3;buyer purse 2;buyer purse 9;"
            + "lets : kind = who + 1 or sold = 1 or price = 3;wants : 1 - 2;");
        due("buyer(0, 3), whatever it wants", y.buyer(0, 3), bits(1));
        due("buyer(1, 3)", y.buyer(1, 3), bits(1, 2));
        due("kind(1, 4), wanted too little", y.kind(1, 4), 0);
    }

    private static void now() {
        CHECKS.about("5: BUYERS who would buy it now, as bits; 6: KINDS it MAY buy now, as bits, the KIND it would buy now");
        String most = "shop;" + "kind price 1;".repeat(8) + "buyer purse 9;".repeat(6);
        OneOfEach own = Checks.shop(most + "lets : kind = who;");
        for (int k = 0; k < 8; k++) {
            due("kind(" + k + ", 4)", own.kind(k, 4), k < 6 ? 1 << k : 0);
        }
        for (int b = 0; b < 6; b++) {
            due("buyer(" + b + ", 3)", own.buyer(b, 3), 1 << b);
            due("buyer(" + b + ", 4)", own.buyer(b, 4), b);
        }
        OneOfEach same = Checks.shop(most);
        due("kind(0, 4), all six", same.kind(0, 4), 63);
        due("kind(1, 4), nobody", same.kind(1, 4), 0);
        due("buyer(5, 3), all eight", same.buyer(5, 3), 255);
        CHECKS.about("6: NONE: nothing; the shop being SHUT, too");
        OneOfEach shut = Checks.shop("shop;kind price 1 sold;kind price 1 hidden;buyer purse 9;buyer purse 0;");
        due("buyer(0, 3), it MAY", shut.buyer(0, 3), 1);
        due("buyer(0, 4)", shut.buyer(0, 4), -1);
        due("buyer(1, 4)", shut.buyer(1, 4), -1);
        due("kind(0, 4)", shut.kind(0, 4), 0);
        due("wants(0, 0), it does", shut.wants(0, 0), 8);
    }

    private static void fewerThanAhead() {
        CHECKS.about("3: The first n bytes of THE TAPE are THE SHOP: nothing of the one ahead is left");
        OneOfEach x = new OneOfEach();
        String most = "shop;" + "kind price 1 group 9 sold;".repeat(7) + "kind price 1 group 9;" + "buyer purse 999 mind 9 odds 9;".repeat(6)
            + "wants : 1;lets : 1 = 1;wants : 7;lets : kind = 5;";
        String few = "shop;kind price 1;kind price 2;buyer purse 3;";
        Checks.tell(x, most);
        Checks.tell(x, most);
        for (int i = 0; i < 2; i++) {
            due("shop of a few", Checks.tell(x, few), 4);
            due("kinds", x.count(0), 2);
            due("buyers", x.count(1), 1);
            due("odds together", x.count(8), 1);
            due("sold", x.count(2), 0);
            due("group", x.kind(1, 1), 0);
            due("kind(0, 4)", x.kind(0, 4), 1);
            due("mind", x.buyer(0, 1), 0);
            due("buyer(0, 3)", x.buyer(0, 3), 3);
            due("wants(0, 1)", x.wants(0, 1), 1);
            due("add(9, 0)", x.add(9, 0), 2);
            due("days(1)", x.days(1), 1);
        }
        OneOfEach y = new OneOfEach();
        for (int i = 1; i <= 6; i++) {
            Checks.tell(y, "shop;kind price 1;buyer purse 2;wants:" + i + "+1".repeat(400) + ";");
            due("wants(0, 0) by the long law of text " + i, y.wants(0, 0), i + 400);
        }
    }

    // ---- shut

    private static void shut(String kinds, int shut) {
        OneOfEach x = Checks.shop("shop;" + kinds + "buyer purse 999;");
        due("count(4) of " + kinds, x.count(4), shut);
        due("visit(0) of " + kinds, x.visit(0) == -12 ? 1 : 0, shut);
        due("ending() of " + kinds, Checks.shop("shop;" + kinds + "buyer purse 999;").ending() == 0 ? 1 : 0, shut);
    }

    private static void shutOrNot() {
        CHECKS.about("The shop is SHUT, once each KIND that isn't HIDDEN was SOLD (at the beginning, too)");
        String open = "kind price 1;";
        String sold = "kind price 1 sold;";
        String hidden = "kind price 1 hidden;";
        String both = "kind price 1 sold hidden;";
        shut(open, 0);
        shut(sold, 1);
        shut(sold + open, 0);
        shut(open + sold, 0);
        shut(sold + sold, 1);
        shut(hidden + open, 0);
        shut(hidden + sold, 1);
        shut(both + open, 0);
        shut(both + sold, 1);
        shut(sold.repeat(8), 1);
        shut(sold.repeat(7) + open, 0);
        shut(open + sold.repeat(7), 0);
        shut(sold.repeat(7) + hidden, 1);
        CHECKS.about("without any such KIND it is SHUT");
        shut("", 1);
        shut(hidden, 1);
        shut(both, 1);
        shut(hidden.repeat(8), 1);
        shut(hidden.repeat(7) + open, 0);
        due("count(4) of a new object", new OneOfEach().count(4), 1);
    }

    private static void shutByDeeds() {
        CHECKS.about("The shop is SHUT, once each KIND that isn't HIDDEN was SOLD");
        OneOfEach x = Checks.shop("shop;kind price 1;kind price 2;kind price 3;buyer purse 9;lets : sold = 0;");
        int[] picks = {0, 1, 2};
        for (int pick : picks) {
            due("open", x.count(4), 0);
            due("visit(0)", x.visit(0), pick);
        }
        due("shut by the last one", x.count(4), 1);
        x.undo(1);
        due("open again", x.count(4), 0);
        due("hide(2), the last one", x.hide(2), 1);
        due("shut by it", x.count(4), 1);
        due("hide(2) can't be", x.hide(2), -12);
        x.undo(1);
        due("days(1)", x.days(1), 1);
        due("shut by a day", x.count(4), 1);
        x.undo(1);
        x.gift(2);
        due("a gift doesn't shut it", x.count(4), 0);
        due("add(1, 0)", x.add(1, 0), 3);
        due("visit(0)", x.visit(0), 3);
        due("visit(0)", x.visit(0), 2);
        due("shut with four", x.count(4), 1);
        OneOfEach y = Checks.shop("shop;kind price 1;");
        due("hide(0), no kind is left", y.hide(0), 1);
        due("shut by it", y.count(4), 1);
    }

    // ---- deeds

    private static void visitWants() {
        CHECKS.about("A VISIT: the BUYER buys of the KINDS it WANTS more than 0");
        OneOfEach x = Checks.shop("shop;kind price 9;kind price 8;kind price 7;buyer purse 9;wants : kind - 1;");
        due("wants 1", x.visit(0), 2);
        x.undo(1);
        x.hide(2);
        due("wants 0 and -1", x.visit(0), -13);
        due("buyer(0, 4)", x.buyer(0, 4), -1);
        due("it MAY buy them", x.buyer(0, 3), 3);
        CHECKS.about("the one it WANTS most, of like ones the first");
        OneOfEach y = Checks.shop("shop;kind price 3 group 2;kind price 3 group 5;kind price 3 group 5;kind price 3 group 5;"
            + "buyer purse 9;wants : group;");
        due("the second of four", y.visit(0), 1);
        y.hide(1);
        due("the third", y.visit(0), 2);
        y.hide(2);
        due("the fourth", y.visit(0), 3);
        y.hide(3);
        due("the first, which is left", y.visit(0), 0);
        due("shut then", y.count(4), 1);
        OneOfEach z = Checks.shop("shop;kind price 1;kind price 1;kind price 1;buyer purse 9;wants : 999 * 999 * 999 + kind;");
        due("like ones by what is kept", z.visit(0), 0);
        CHECKS.about("of the KINDS it MAY");
        OneOfEach w = Checks.shop("shop;kind price 50;kind price 40;kind price 4;kind price 3;buyer purse 45;wants : price;lets : not price = 40;");
        due("neither too dear nor forbidden", w.visit(0), 2);
    }

    private static void visitAgain() {
        CHECKS.about("it is SOLD (whether it was, or not), the till has its PRICE more; a PURSE is as full again each time");
        OneOfEach x = Checks.shop("shop;kind price 9;kind price 1 sold;kind price 99;buyer purse 9;wants : price;");
        for (int i = 1; i <= 5; i++) {
            due("visit(0)", x.visit(0), 0);
            due("till", x.count(5), 9 * i);
            due("sold", x.count(2), 3);
        }
        due("the day is as it was", x.count(7), 0);
        due("x is as it was", Checks.xOf(x), 0);
        due("gifts", x.count(6), 0);
        x.hide(0);
        due("one that was sold at the beginning", x.visit(0), 1);
        due("till", x.count(5), 46);
    }

    private static void gifts() {
        CHECKS.about("A GIFT: a KIND leaves the till as it is, and isn't SOLD by it");
        OneOfEach x = Checks.shop("shop;kind price 9;kind price 8 sold;kind price 7 hidden;kind price 6 sold hidden;buyer purse 1;");
        for (int k = 0; k < 4; k++) {
            due("gift(" + k + ")", x.gift(k), k + 1);
            due("GIFTS", x.count(6), k + 1);
        }
        due("till", x.count(5), 0);
        due("sold", x.count(2), bits(1, 3));
        due("hidden", x.count(3), bits(2, 3));
        due("kinds", x.count(0), 4);
        due("calls", x.count(9), 4);
    }

    private static void hidden() {
        CHECKS.about("To HIDE: a KIND is HIDDEN, or no more");
        OneOfEach x = Checks.shop("shop;kind price 1 sold;" + "kind price 1;".repeat(6) + "kind price 1 hidden;buyer purse 9;");
        for (int k = 0; k < 7; k++) {
            due("hide(" + k + ")", x.hide(k), 1);
            due("kind(" + k + ", 3)", x.kind(k, 3), 1);
            due("hide(" + k + ") again", x.hide(k), 0);
            due("kind(" + k + ", 3)", x.kind(k, 3), 0);
        }
        due("hide(7)", x.hide(7), 0);
        due("hidden ones", x.count(3), 0);
        due("sold as it was", x.count(2), 1);
        due("hide(7)", x.hide(7), 1);
        due("hidden ones", x.count(3), 128);
    }

    private static void added() {
        CHECKS.about("To ADD a KIND (with a PRICE, a group; not SOLD, not HIDDEN): its number; 8 at most");
        int[][] told = {{1, 0}, {1, 9}, {99, 0}, {99, 9}, {50, 5}, {2, 1}, {98, 8}};
        OneOfEach x = Checks.shop("shop;kind price 5 sold hidden;kind price 5;buyer purse 99;");
        for (int i = 0; i < 6; i++) {
            due("add", x.add(told[i][0], told[i][1]), i + 2);
            due("price", x.kind(i + 2, 0), told[i][0]);
            due("group", x.kind(i + 2, 1), told[i][1]);
            due("sold", x.kind(i + 2, 2), 0);
            due("hidden", x.kind(i + 2, 3), 0);
            due("kinds", x.count(0), i + 3);
        }
        due("the ninth", x.add(98, 8), -13);
        due("kinds", x.count(0), 8);
        due("lines", x.count(11), 4);
        due("visit(0), the cheapest", x.visit(0), 2);
        due("sold", x.count(2), bits(0, 2));
        x.undo(7);
        due("kinds", x.count(0), 2);
        due("add again", x.add(7, 7), 2);
        due("not sold", x.kind(2, 2), 0);
    }

    private static void pricedAnew() {
        CHECKS.about("To PRICE a KIND anew (1 to 99): what it was");
        OneOfEach x = Checks.shop("shop;kind price 5 group 3 sold;kind price 6 hidden;kind price 7;buyer purse 99;");
        due("price(0, 1)", x.price(0, 1), 5);
        due("price(0, 99)", x.price(0, 99), 1);
        due("price(0, 99)", x.price(0, 99), 99);
        due("price(1, 50), hidden", x.price(1, 50), 6);
        due("group", x.kind(0, 1), 3);
        due("sold", x.count(2), 1);
        due("hidden", x.count(3), 2);
        due("till", x.count(5), 0);
        due("calls, the same price again, too", x.count(9), 4);
        due("visit(0)", x.visit(0), 2);
        x.undo(1);
        x.price(2, 99);
        due("visit(0), wants 0", x.visit(0), -13);
        due("wants(0, 2)", x.wants(0, 2), 0);
    }
}
