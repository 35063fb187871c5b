/** Each promise by number: ordinary inputs, the edges that the document names, each refused call. Answers by hand. */
public final class PromisesTest {
    private static final Checks CHECKS = new Checks("PromisesTest");
    private static int promise = 0;

    // Buyer 0 buys kind 0 and then nothing; buyer 1 buys kind 0, then kind 1. Buyer 0 comes twice as often.
    private static final String PAIR = "shop;kind price 4 group 2;kind price 7;kind price 5 hidden;"
        + "buyer purse 6 mind 3 odds 2;buyer purse 9;lets : sold = 0;";
    // Kind 1 can be bought only behind kind 0.
    private static final String CHAIN = "shop;kind price 1;kind price 1;buyer purse 9;lets : gone = kind;";
    // Kind 0 with none gone, kind 1 with two gone, kind 2 always.
    private static final String LINKED = "shop;kind price 1;kind price 1;kind price 1;buyer purse 9;"
        + "lets : kind = 2 or gone = kind * 2;wants : 9 - kind;";

    private static void due(String call, long got, long want) {
        CHECKS.due("promise " + promise + ", " + call, got, want);
    }

    public static void main(String[] args) {
        theShop();
        deeds();
        howItEnds();
        chances();
        whatToHide();
        theTill();
        whatWasGone();
        traysAndImages();
        eachAlone();
        laterQuestions();
        CHECKS.end();
    }

    // ---- the shop

    private static void theShop() {
        newObject();
        feed();
        shop();
        texts();
        fault();
        kind();
        buyer();
        wants();
        laws();
    }

    private static void newObject() {
        promise = 1;
        OneOfEach x = new OneOfEach();
        int[] counts = {0, 0, 0, 0, 1, 0, 0, 0, 0, 0, 0, 0};
        for (int i = 0; i < counts.length; i++) {
            due("count(" + i + ")", x.count(i), counts[i]);
        }
        due("fault(0)", x.fault(0), 0);
        due("fault(1)", x.fault(1), -1);
        due("seed(0)", x.seed(0), 0);
        due("judge(3, 0)", x.judge(3, 0), -6);
        due("restore(1)", x.restore(1), -5);
    }

    private static void feed() {
        promise = 2;
        OneOfEach x = new OneOfEach();
        due("feed", x.feed(0x73686f70, 0x3b6b696e, 0x64207072, 0x69636520, 0x39396b3b), 20);
        due("count(10)", x.count(10), 20);
        due("shop(20)", x.shop(20), -32);
        due("fault(1), behind the highest byte first", x.fault(1), 18);
        for (int i = 1; i <= 45; i++) {
            due("feed " + i, x.feed(1, 2, 3, 4, 5), 20 * i);
        }
        due("feed, the 46th", x.feed(1, 2, 3, 4, 5), -5);
        due("count(10)", x.count(10), 900);
        due("shop(900)", x.shop(900), -31);
        due("feed", x.feed(0, 0, 0, 0, 0), 20);
    }

    private static void shop() {
        promise = 3;
        OneOfEach x = Checks.shop(PAIR);
        due("count(11)", x.count(11), 7);
        x.days(1);
        x.gift(0);
        Checks.feed(x, PAIR);
        due("shop(-1)", x.shop(-1), -3);
        due("shop(n + 1)", x.shop(x.count(10) + 1), -3);
        due("the tape stays", x.count(10), (PAIR.length() + 19) / 20 * 20);
        due("all stays", x.count(5), 4);
        due("shop", x.shop(PAIR.length()), 7);
        int[] behind = {3, 2, 0, 4, 0, 0, 0, 1, 3, 0, 0, 7};
        for (int i = 0; i < behind.length; i++) {
            due("count(" + i + ")", x.count(i), behind[i]);
        }
        due("x is 0", Checks.xOf(x), 0);
        x.visit(0);
        due("a fault", Checks.tell(x, "shop;kind price 1"), -32);
        due("all stays", x.count(2), 1);
        due("calls that can be undone stay", x.count(9), 1);
        due("lines stay", x.count(11), 7);
        due("the tape is empty", x.count(10), 0);
        due("shop(0)", x.shop(0), -32);
        due("a shop alone", Checks.tell(x, " shop\n; "), 1);
        due("no kinds", x.count(0), 0);
        due("no buyers", x.count(1), 0);
        due("shut", x.count(4), 1);
        due("nothing can be undone", x.undo(1), -3);
        due("all sold at the beginning", Checks.tell(x, "shop;kind price 1 sold;kind price 2 hidden;"), 3);
        due("shut", x.count(4), 1);
    }

    private static void text(String text, int fault, int place) {
        OneOfEach x = new OneOfEach();
        int answer = Checks.tell(x, text);
        if (fault == 0) {
            due("shop of " + text, answer < 1 ? answer : 1, 1);
        } else {
            due("shop of " + text, answer, -30 - fault);
        }
        due("fault(0) of " + text, x.fault(0), fault);
        due("fault(1) of " + text, x.fault(1), place);
    }

    private static void texts() {
        text("shop;kind price 001 group 000 group 9 sold hidden sold;", 0, -1);
        text("shop;kind\nprice\n99;buyer purse 0 odds 0 mind 9;buyer purse 999;", 0, -1);
        text("shop;wants:who+purse-mind*kind+(price*(group-gone))+sold;wants:0;", 0, -1);
        text("shop;lets:not[1=1 and 2>1 or not 1<2]and[[[[(1)=1]]]];lets:1=1;", 0, -1);
        text("shop;wants : ((((((1)))))) + ((((((1))))));", 0, -1);
        text("shop;lets : not not not [ [ (1) = 1 ] ];", 0, -1);
        text("shop;lets : not 1 = 1 and (((((( 1 )))))) = 1;", 0, -1);
        text("   ", 2, 3);
        text("shop;;", 2, 5);
        text("Shop;", 1, 0);
        text("shop;\tkind price 1;", 1, 5);
        text("shop;kind price 1\r;", 1, 17);
        text("shop;kind price 0000;", 1, 16);
        text("shop;kindprice 1;", 2, 5);
        text("shop;kind price 1 2;", 2, 18);
        text("shop;kind price;", 2, 15);
        text("shop;kind price 1 group;", 2, 23);
        text("shop;kind price 1 odds 2;", 2, 18);
        text("shop;kind group 1 price 1;", 2, 10);
        text("shop;kind price 1 shop;", 2, 18);
        text("shop;buyer purse 1 sold;", 2, 19);
        text("shop;buyer purse 1 mind 9 odds 10;", 3, 31);
        text("shop;kind price 000;", 3, 16);
        text("shop;wants : 1 = 1;", 2, 15);
        text("shop;wants : 1 +;", 2, 16);
        text("shop;wants : -1;", 2, 13);
        text("shop;wants : [1];", 2, 13);
        text("shop;wants : 1);", 2, 14);
        text("shop;wants : odds;", 2, 13);
        text("shop;wants : 1000;", 1, 13);
        text("shop;wants : 1 1;", 2, 15);
        text("shop;lets : (1 = 1);", 2, 15);
        text("shop;lets : 1 = 1 = 1;", 2, 18);
        text("shop;lets : 1 = 1 not 1 = 1;", 2, 18);
        text("shop;lets : 1 = 1 ];", 2, 18);
        text("shop;lets : 1 = 1 and;", 2, 21);
        text("shop;lets : not (((((( 1 )))))) = 1;", 4, 21);
        text("shop;lets : [[[[[[[1=1]]]]]]];", 4, 18);
        text("shop;lets : [[[[[[(1)=1]]]]]];", 4, 18);
        text("shop;lets : 1 = 1", 2, 17);
        text("shop;lets 1 = 1;", 2, 10);
        text("shop;kind price 0;?", 3, 16);
        text("shop;salt ?;", 2, 5);
        text("shop;zz;", 2, 5);
        text("shop;kind price who;", 2, 16);
        text("shop;wants : shop;", 2, 13);
        text("shop;lets : 1;", 2, 13);
        text("shop;lets : [ 1 ];", 2, 16);
        text("shop;hiddens;", 2, 5);
        text("shop;kin price 1;", 2, 5);
        String kinds = "kind price 1;kind price 1;kind price 1;kind price 1;";
        text("shop;" + kinds + kinds, 0, -1);
        text("shop;" + kinds + kinds + "kind price 0;", 4, 109);
        String buyers = "buyer purse 1;buyer purse 1;buyer purse 1;";
        text("shop;" + buyers + buyers, 0, -1);
        text("shop;" + buyers + buyers + "buyer;", 4, 89);
    }

    private static void fault() {
        promise = 4;
        OneOfEach x = new OneOfEach();
        Checks.tell(x, "shop;kind price 100;");
        due("fault(0)", x.fault(0), 3);
        due("fault(1)", x.fault(1), 16);
        due("fault(2)", x.fault(2), -1);
        due("fault(-1)", x.fault(-1), -1);
        due("shop(1), which isn't read", x.shop(1), -3);
        due("fault(0)", x.fault(0), 3);
        Checks.tell(x, "shop;");
        due("fault(0)", x.fault(0), 0);
        due("fault(1)", x.fault(1), -1);
    }

    private static void kind() {
        promise = 5;
        OneOfEach x = Checks.shop(PAIR);
        int[][] kinds = {{4, 2, 0, 0, 3}, {7, 0, 0, 0, 0}, {5, 0, 0, 1, 0}};
        for (int k = 0; k < 3; k++) {
            for (int what = 0; what < 5; what++) {
                due("kind(" + k + ", " + what + ")", x.kind(k, what), kinds[k][what]);
            }
        }
        due("kind(3, 0)", x.kind(3, 0), -2);
        due("kind(-1, 0)", x.kind(-1, 0), -2);
        due("kind(0, 5)", x.kind(0, 5), -2);
        due("kind(0, -1)", x.kind(0, -1), -2);
        x.visit(0);
        due("kind(0, 2)", x.kind(0, 2), 1);
        due("kind(1, 4)", x.kind(1, 4), 2);
        x.visit(1);
        due("kind(1, 4), shut", x.kind(1, 4), 0);
    }

    private static void buyer() {
        promise = 6;
        OneOfEach x = Checks.shop(PAIR);
        int[][] buyers = {{6, 3, 2, 1, 0}, {9, 0, 1, 3, 0}};
        for (int b = 0; b < 2; b++) {
            for (int what = 0; what < 5; what++) {
                due("buyer(" + b + ", " + what + ")", x.buyer(b, what), buyers[b][what]);
            }
        }
        due("buyer(2, 0)", x.buyer(2, 0), -2);
        due("buyer(-1, 4)", x.buyer(-1, 4), -2);
        due("buyer(0, 5)", x.buyer(0, 5), -2);
        due("buyer(0, -1)", x.buyer(0, -1), -2);
        x.visit(0);
        due("buyer(0, 4), nothing", x.buyer(0, 4), -1);
        OneOfEach y = Checks.shop("shop;kind price 3 sold;buyer purse 3;buyer purse 4;buyer purse 2;");
        due("buyer(1, 3), shut", y.buyer(1, 3), 1);
        due("buyer(1, 4), shut", y.buyer(1, 4), -1);
        due("buyer(0, 3), the price isn't above the purse", y.buyer(0, 3), 1);
        due("buyer(2, 3)", y.buyer(2, 3), 0);
        OneOfEach z = Checks.shop("shop;kind price 3;kind price 3;buyer purse 3;buyer purse 4;");
        due("buyer(0, 4), wants 0", z.buyer(0, 4), -1);
        due("buyer(1, 4), the first of like ones", z.buyer(1, 4), 0);
    }

    private static void wants() {
        promise = 7;
        OneOfEach x = Checks.shop(PAIR);
        due("wants(0, 0)", x.wants(0, 0), 2);
        due("wants(0, 1)", x.wants(0, 1), -1);
        due("wants(1, 2)", x.wants(1, 2), 4);
        due("wants(2, 0)", x.wants(2, 0), -99000002);
        due("wants(0, 3)", x.wants(0, 3), -99000002);
        due("wants(-1, 0)", x.wants(-1, 0), -99000002);
        due("wants(0, -1)", x.wants(0, -1), -99000002);
    }

    /** What a law tells of buyer 1 (purse 20, mind 4) and kind 2 (price 9, group 5, sold), two kinds being gone. */
    private static void wanted(String law, int want) {
        OneOfEach x = Checks.shop("shop;kind price 1 sold;kind price 1;kind price 9 group 5 sold;buyer purse 7;"
            + "buyer purse 20 mind 4;wants : " + law + ";");
        due("wants : " + law, x.wants(1, 2), want);
    }

    private static void let(String law, int bit) {
        OneOfEach x = Checks.shop("shop;kind price 1 sold;kind price 1;kind price 9 group 5 sold;buyer purse 7;"
            + "buyer purse 20 mind 4;lets : " + law + ";");
        due("lets : " + law, x.buyer(1, 3) >> 2 & 1, bit);
    }

    private static void laws() {
        String[] facts = {"who", "purse", "mind", "kind", "price", "group", "gone", "sold"};
        int[] values = {1, 20, 4, 2, 9, 5, 2, 1};
        for (int i = 0; i < facts.length; i++) {
            wanted(facts[i], values[i]);
        }
        wanted("2 + 3 * 4 - 5 - 6", 3);
        wanted("(2 + 3) * (4 - (5 - 6))", 25);
        wanted("999 * 999 * 999", 1000000);
        wanted("999 * 999 * 999 - 1", 999999);
        wanted("0 - 999 * 999 - 999 * 999 + 1", -999999);
        wanted("(0 - 999) * 999 * 2", -1000000);
        wanted("999 * 999 + 999 + 999 + 1", 1000000);
        wanted("999 * 999 + 999 + 999 + 1 - 1", 999999);
        String head = "shop;kind price 1;buyer purse 2;wants:1";
        OneOfEach longest = Checks.shop(head + "+1".repeat((899 - head.length()) / 2) + ";");
        due("a law as long as the text may be", longest.wants(0, 0), 1 + (899 - head.length()) / 2);
        let("1 = 1", 1);
        let("1 = 2", 0);
        let("2 > 1", 1);
        let("1 > 1", 0);
        let("1 < 2", 1);
        let("2 < 2", 0);
        let("not 1 = 1", 0);
        let("not not 1 = 1", 1);
        let("1 = 1 or 1 = 1 and 1 = 2", 1);
        let("[1 = 1 or 1 = 1] and 1 = 2", 0);
        let("not 1 = 2 and 1 = 1", 1);
        let("not [1 = 2 or 1 = 1]", 0);
        let("1 = 2 or 1 = 3 or 1 = 1", 1);
        let("who = 1 and kind = 2 and sold = 1", 1);
    }

    // ---- deeds

    private static void deeds() {
        seed();
        visit();
        giftAndHide();
        addAndPrice();
        days();
        undo();
        judge();
        perform();
        season();
    }

    private static void seed() {
        promise = 8;
        OneOfEach x = Checks.shop(PAIR);
        due("seed(5)", x.seed(5), 0);
        due("seed(-9)", x.seed(-9), 5);
        due("seed(0)", x.seed(0), -9);
        due("calls that can be undone", x.count(9), 3);
        x.days(1);
        due("seed(0), drawn", x.seed(0), 12345);
        due("calls that can be undone", x.count(9), 5);
        OneOfEach y = new OneOfEach();
        due("seed(7), without a shop", y.seed(7), 0);
        due("undo(1)", y.undo(1), 0);
        due("x", y.seed(0), 0);
    }

    private static void visit() {
        promise = 9;
        OneOfEach x = Checks.shop(PAIR);
        due("visit(2)", x.visit(2), -11);
        due("visit(-1)", x.visit(-1), -11);
        due("visit(1)", x.visit(1), 0);
        due("visit(0)", x.visit(0), -13);
        due("nothing changed", x.count(9), 1);
        due("till", x.count(5), 4);
        due("visit(1)", x.visit(1), 1);
        due("till", x.count(5), 11);
        due("sold", x.count(2), 3);
        due("shut", x.count(4), 1);
        due("visit(1), shut", x.visit(1), -12);
        due("visit(2), shut", x.visit(2), -11);
        OneOfEach y = Checks.shop("shop;kind price 3;kind price 9;buyer purse 5;");
        due("visit(0)", y.visit(0), 0);
        due("visit(0), the same again", y.visit(0), 0);
        due("till", y.count(5), 6);
        due("sold", y.count(2), 1);
    }

    private static void giftAndHide() {
        promise = 10;
        OneOfEach x = Checks.shop(PAIR);
        due("gift(3)", x.gift(3), -11);
        due("gift(-1)", x.gift(-1), -11);
        due("gift(0)", x.gift(0), 1);
        due("gift(2)", x.gift(2), 2);
        due("count(6)", x.count(6), 2);
        due("till", x.count(5), 0);
        due("sold", x.count(2), 0);
        promise = 11;
        due("hide(3)", x.hide(3), -11);
        due("hide(-1)", x.hide(-1), -11);
        due("hide(2)", x.hide(2), 0);
        due("hide(0)", x.hide(0), 1);
        due("hidden", x.count(3), 1);
        due("buyer(1, 4)", x.buyer(1, 4), 2);
        x.hide(1);
        due("hide(2), the last", x.hide(2), 1);
        due("shut", x.count(4), 1);
        due("hide(2), shut", x.hide(2), -12);
        due("hide(3), shut", x.hide(3), -11);
        promise = 10;
        due("gift(0), shut", x.gift(0), -12);
        due("gift(3), shut", x.gift(3), -11);
    }

    private static void addAndPrice() {
        promise = 12;
        OneOfEach x = Checks.shop(PAIR);
        due("add(0, 1)", x.add(0, 1), -11);
        due("add(100, 1)", x.add(100, 1), -11);
        due("add(1, 10)", x.add(1, 10), -11);
        due("add(1, -1)", x.add(1, -1), -11);
        due("add(99, 9)", x.add(99, 9), 3);
        due("kind(3, 0)", x.kind(3, 0), 99);
        due("kind(3, 1)", x.kind(3, 1), 9);
        due("kind(3, 2)", x.kind(3, 2), 0);
        due("kind(3, 3)", x.kind(3, 3), 0);
        for (int k = 4; k < 8; k++) {
            due("add(1, 0)", x.add(1, 0), k);
        }
        due("add(1, 0), the ninth", x.add(1, 0), -13);
        due("add(0, 0), the ninth", x.add(0, 0), -11);
        due("lines", x.count(11), 7);
        promise = 13;
        due("price(8, 5)", x.price(8, 5), -11);
        due("price(-1, 5)", x.price(-1, 5), -11);
        due("price(0, 0)", x.price(0, 0), -11);
        due("price(0, 100)", x.price(0, 100), -11);
        due("price(0, 7)", x.price(0, 7), 4);
        due("price(0, 7)", x.price(0, 7), 7);
        due("kind(0, 0)", x.kind(0, 0), 7);
        due("buyer(0, 3)", x.buyer(0, 3), 0xf0);
        OneOfEach y = new OneOfEach();
        Checks.tell(y, "shop;kind price 1 sold;");
        due("price(0, 1), shut", y.price(0, 1), -12);
        due("price(1, 1), shut", y.price(1, 1), -11);
        promise = 12;
        due("add(1, 1), shut", y.add(1, 1), -12);
        due("add(1, 10), shut", y.add(1, 10), -11);
    }

    private static void days() {
        promise = 14;
        OneOfEach x = Checks.shop(PAIR);
        due("days(0)", x.days(0), -3);
        due("days(100)", x.days(100), -3);
        due("days(1), the first buyer is drawn", x.days(1), 1);
        due("sold", x.count(2), 1);
        due("days(2), the second, then shut", x.days(2), 1);
        due("day", x.count(7), 3);
        due("till", x.count(5), 11);
        due("x, drawn thrice", Checks.xOf(x), -1492899873);
        due("calls to undo", x.count(9), 2);
        due("days(99)", x.days(99), 0);
        due("day", x.count(7), 102);
        OneOfEach y = Checks.shop("shop;kind price 1;buyer purse 2 odds 0;");
        due("days(5), nobody comes", y.days(5), 0);
        due("day", y.count(7), 5);
        due("x, no draw", Checks.xOf(y), 0);
    }

    private static void undo() {
        promise = 15;
        OneOfEach x = Checks.shop(PAIR);
        due("undo(1), nothing", x.undo(1), -3);
        x.visit(0);
        x.gift(1);
        x.hide(0);
        x.price(1, 50);
        x.add(3, 3);
        x.days(4);
        due("calls", x.count(9), 6);
        due("undo(0)", x.undo(0), -3);
        due("undo(7)", x.undo(7), -3);
        due("undo(1)", x.undo(1), 5);
        due("day", x.count(7), 0);
        due("x", Checks.xOf(x), 0);
        due("undo(1)", x.undo(1), 4);
        due("kinds", x.count(0), 3);
        due("undo(1)", x.undo(1), 3);
        due("price", x.kind(1, 0), 7);
        due("undo(1)", x.undo(1), 2);
        due("hidden", x.count(3), 4);
        due("undo(2)", x.undo(2), 0);
        due("gifts", x.count(6), 0);
        due("sold", x.count(2), 0);
        due("till", x.count(5), 0);
        for (int i = 0; i < 13; i++) {
            x.gift(0);
        }
        due("calls, the eldest are forgotten", x.count(9), 10);
        due("undo(11)", x.undo(11), -3);
        due("undo(10)", x.undo(10), 0);
        due("gifts", x.count(6), 3);
        undoSeed();
    }

    private static void undoSeed() {
        OneOfEach x = Checks.shop(PAIR);
        x.seed(77);
        x.days(1);
        int drawn = Checks.xOf(x);
        x.seed(5);
        due("undo(1), a seed", x.undo(1), 2);
        due("x as ahead of the seed", Checks.xOf(x), drawn);
        due("the day stays", x.count(7), 1);
        due("undo(1), the day", x.undo(1), 1);
        due("x as ahead of the day", Checks.xOf(x), 77);
        due("undo(1), the first seed", x.undo(1), 0);
        due("x", Checks.xOf(x), 0);
        x.seed(0);
        x.seed(0);
        due("undo(1), x stays the same", x.undo(1), 1);
        due("undo(1), x stays the same", x.undo(1), 0);
        x.gift(0);
        for (int i = 1; i <= 10; i++) {
            x.seed(i);
        }
        due("ten seeds, the gift is forgotten", x.count(9), 10);
        due("undo(10)", x.undo(10), 0);
        due("gifts stay", x.count(6), 1);
        due("x", Checks.xOf(x), 0);
        x.seed(3);
        x.season(7, 5);
        due("undo(1), a season", x.undo(1), 1);
        due("x as ahead of the season", Checks.xOf(x), 3);
        x.image(0);
        due("calls stay behind image()", x.count(9), 1);
        x.restore(0);
        due("undo(1), restored", x.undo(1), -3);
        due("x", x.seed(4), 3);
    }

    private static void judge() {
        promise = 16;
        OneOfEach x = Checks.shop(PAIR);
        due("judge(0, 0)", x.judge(0, 0), -6);
        due("judge(0, 4), missing", x.judge(0, 4), -2);
        due("judge(4, 0)", x.judge(4, 0), -2);
        due("judge(-1, 0)", x.judge(-1, 0), -2);
        judged(x, new long[] {}, -1, 0, 0, 0);
        judged(x, new long[] {0, 0}, 1, 3, 1, 4);
        judged(x, new long[] {1, 1}, -1, 0, 3, 11);
        judged(x, new long[] {1, 1, 1}, 2, 2, 3, 11);
        judged(x, new long[] {1, 1, -1, 101}, 3, 2, 3, 11);
        judged(x, new long[] {-1, -1}, -1, 0, 3, 11);
        judged(x, new long[] {2}, 0, 1, 0, 0);
        judged(x, new long[] {102, 103}, 1, 1, 0, 0);
        judged(x, new long[] {200, 1, 202, 203}, 2, 2, 2, 7);
        judged(x, new long[] {1006, 1, 1199, 1}, 3, 3, 1, 6);
        judged(x, new long[] {1000}, 0, 1, 0, 0);
        judged(x, new long[] {1301}, 0, 1, 0, 0);
        for (long none : new long[] {10, 99, 110, 199, 210, 999, 2000, -2, 1L << 32, Long.MIN_VALUE}) {
            judged(x, new long[] {none}, 0, 1, 0, 0);
        }
        due("nothing is done", x.count(9) + x.count(2) + x.count(7) + Checks.xOf(x), 0);
    }

    private static void judged(OneOfEach x, long[] deeds, int place, int why, int sold, int till) {
        String told = java.util.Arrays.toString(deeds);
        Checks.tray(x, 1, deeds);
        due("judge " + told + ", 0", x.judge(1, 0), place);
        due("judge " + told + ", 1", x.judge(1, 1), why);
        due("judge " + told + ", 2", x.judge(1, 2), sold);
        due("judge " + told + ", 3", x.judge(1, 3), till);
    }

    private static void perform() {
        promise = 17;
        OneOfEach x = Checks.shop(PAIR);
        due("perform(4)", x.perform(4), -2);
        due("perform(-1)", x.perform(-1), -2);
        due("perform(0)", x.perform(0), -6);
        Checks.tray(x, 0, 2, 0);
        due("perform, the first can't be", x.perform(0), 0);
        due("calls", x.count(9), 0);
        Checks.tray(x, 0, 1106, 0, 102, -1, 202, 0, 0);
        due("perform", x.perform(0), 6);
        due("sold, the kind that was hidden too", x.count(2), 5);
        due("gifts", x.count(6), 1);
        due("hidden", x.count(3), 0);
        due("price", x.kind(1, 0), 6);
        due("day", x.count(7), 1);
        due("x", Checks.xOf(x), 12345);
        due("undo(1), as a whole", x.undo(1), 0);
        due("sold", x.count(2), 0);
        due("hidden", x.count(3), 4);
        due("price", x.kind(1, 0), 7);
        x.numbers(2, 0, 0);
        due("perform, nothing told", x.perform(2), 0);
        due("calls", x.count(9), 0);
        x.numbers(2, 0, 2);
        x.write(2, 0, 255);
        x.write(2, 1, 228);
        due("perform, numbers of 8 bits", x.perform(2), 1);
        due("day", x.count(7), 1);
    }

    private static void season() {
        promise = 18;
        OneOfEach x = Checks.shop(PAIR);
        due("season(7, 0)", x.season(7, 0), -3);
        due("season(7, 41)", x.season(7, 41), -3);
        due("season(7, 1), no such buyer", x.season(7, 1), 0);
        due("x stays", Checks.xOf(x), 0);
        due("calls", x.count(9), 0);
        due("season(7, 2), a gift", x.season(7, 2), 1);
        due("gifts", x.count(6), 1);
        due("undo(1)", x.undo(1), 0);
        due("season(7, 5)", x.season(7, 5), 3);
        due("sold", x.count(2), 1);
        due("till", x.count(5), 4);
        due("gifts", x.count(6), 1);
        due("day", x.count(7), 2);
        due("x", Checks.xOf(x), -1432285931);
        due("undo(1)", x.undo(1), 0);
        due("day", x.count(7), 0);
        due("x", x.seed(0), 0);
    }

    // ---- how it ends

    private static void howItEnds() {
        promise = 19;
        OneOfEach x = Checks.shop(PAIR);
        due("ending()", x.ending(), 2);
        promise = 20;
        due("endingBy(-1)", x.endingBy(-1), -3);
        due("endingBy(0)", x.endingBy(0), 0);
        due("endingBy(1)", x.endingBy(1), 1);
        due("endingBy(2)", x.endingBy(2), -1);
        promise = 21;
        due("endings(-1)", x.endings(-1), -3);
        due("endings(16)", x.endings(16), -3);
        due("endings(0)", x.endings(0), 0);
        due("endings(1)", x.endings(1), 0);
        due("endings(2)", x.endings(2), 2);
        due("endings(3)", x.endings(3), 0);
        promise = 22;
        due("needed()", x.needed(), 2);
        promise = 23;
        due("sellable()", x.sellable(), 3);
        promise = 24;
        due("guards()", x.guards(), 0);
        promise = 25;
        due("last()", x.last(), 2);
        endsShut();
        endsNever();
        endsWithLinks();
        endsInManyWays();
    }

    private static void endsShut() {
        OneOfEach x = Checks.shop("shop;kind price 1 sold;kind price 1 hidden;buyer purse 2;");
        promise = 19;
        due("ending(), shut", x.ending(), 0);
        promise = 20;
        due("endingBy(0), shut", x.endingBy(0), -1);
        promise = 21;
        due("endings(0), shut", x.endings(0), 1);
        due("endings(1), shut", x.endings(1), 0);
        promise = 22;
        due("needed(), shut", x.needed(), 0);
        promise = 23;
        due("sellable(), shut", x.sellable(), 1);
        promise = 24;
        due("guards(), shut", x.guards(), 0);
        promise = 25;
        due("last(), shut", x.last(), 0);
    }

    private static void endsNever() {
        OneOfEach x = Checks.shop("shop;kind price 1;kind price 9;kind price 1 sold hidden;buyer purse 2;");
        promise = 19;
        due("ending(), none", x.ending(), -1);
        promise = 20;
        due("endingBy(0), none", x.endingBy(0), -1);
        due("endingBy(-1), none", x.endingBy(-1), -3);
        promise = 21;
        due("endings(15), none", x.endings(15), 0);
        promise = 22;
        due("needed(), none", x.needed(), 0);
        promise = 23;
        due("sellable(), none", x.sellable(), 5);
        promise = 24;
        due("guards(), none", x.guards(), 0);
        promise = 25;
        due("last(), none", x.last(), 2);
    }

    private static void endsWithLinks() {
        OneOfEach x = Checks.shop(CHAIN);
        promise = 19;
        due("ending()", x.ending(), 2);
        promise = 24;
        due("guards()", x.guards(), 1);
        promise = 22;
        due("needed()", x.needed(), 1);
        promise = 25;
        due("last()", x.last(), 2);
        OneOfEach y = Checks.shop("shop;kind price 1 sold;kind price 1;kind price 1;buyer purse 3;lets : kind = gone;");
        promise = 24;
        due("guards(), the sold one doesn't guard", y.guards(), 2);
        promise = 25;
        due("last()", y.last(), 4);
        OneOfEach z = Checks.shop("shop;kind price 1;buyer purse 2;");
        due("last(), without visits", z.last(), 1);
        promise = 24;
        due("guards(), hidden it is shut", z.guards(), 0);
    }

    private static void endsInManyWays() {
        // Two who buy the same again and again, one who buys the other kind.
        OneOfEach x = Checks.shop("shop;kind price 1;kind price 5;buyer purse 3;buyer purse 4;buyer purse 9;wants : price;");
        promise = 19;
        due("ending()", x.ending(), 2);
        promise = 20;
        due("endingBy(0)", x.endingBy(0), 0);
        due("endingBy(1)", x.endingBy(1), 2);
        promise = 21;
        due("endings(2)", x.endings(2), 4);
        // n - 1 of one sort, then the other: 2 ^ (n - 1) + 2.
        due("endings(3)", x.endings(3), 6);
        due("endings(15)", x.endings(15), 16386);
        promise = 22;
        due("needed()", x.needed(), 4);
        promise = 25;
        due("last()", x.last(), 3);
        OneOfEach y = Checks.shop("shop;kind price 1;kind price 2;buyer purse 9;buyer purse 9;buyer purse 9;buyer purse 9;"
            + "buyer purse 9;buyer purse 9 mind 1;lets : mind = 1 or kind = 0;wants : price;");
        promise = 21;
        due("endings(15), five to the fourteenth and five", y.endings(15), 6103515625L + 5);
    }

    // ---- chances

    private static void chance(String call, long above, long below, long wantAbove, long wantBelow) {
        due(call + ", above", above, wantAbove);
        due(call + ", below", below, wantBelow);
    }

    private static void chances() {
        OneOfEach x = Checks.shop(PAIR);
        promise = 26;
        chance("open(0)", x.open(0, 0), x.open(0, 1), 1, 1);
        chance("open(1)", x.open(1, 0), x.open(1, 1), 1, 1);
        chance("open(2)", x.open(2, 0), x.open(2, 1), 2, 3);
        chance("open(3)", x.open(3, 0), x.open(3, 1), 4, 9);
        chance("open(10)", x.open(10, 0), x.open(10, 1), 512, 19683);
        due("open(11, 0)", x.open(11, 0), -3);
        due("open(-1, 0)", x.open(-1, 0), -3);
        due("open(11, 2)", x.open(11, 2), -2);
        due("open(0, -1)", x.open(0, -1), -2);
        promise = 27;
        due("likely(0)", x.likely(0), 0);
        due("likely(1)", x.likely(1), 2);
        due("likely(33)", x.likely(33), 2);
        due("likely(34)", x.likely(34), 3);
        due("likely(97)", x.likely(97), 10);
        due("likely(98)", x.likely(98), -1);
        due("likely(100)", x.likely(100), -1);
        due("likely(101)", x.likely(101), -3);
        due("likely(-1)", x.likely(-1), -3);
        promise = 28;
        chance("shutsBy(1, 1)", x.shutsBy(1, 1, 0), x.shutsBy(1, 1, 1), 0, 1);
        chance("shutsBy(1, 3)", x.shutsBy(1, 3, 0), x.shutsBy(1, 3, 1), 5, 9);
        chance("shutsBy(0, 9)", x.shutsBy(0, 9, 0), x.shutsBy(0, 9, 1), 0, 1);
        due("shutsBy(2, 11, 0)", x.shutsBy(2, 11, 0), -2);
        due("shutsBy(-1, 1, 0)", x.shutsBy(-1, 1, 0), -2);
        due("shutsBy(0, 11, 2)", x.shutsBy(0, 11, 2), -2);
        due("shutsBy(0, 11, 0)", x.shutsBy(0, 11, 0), -3);
        due("shutsBy(0, -1, 1)", x.shutsBy(0, -1, 1), -3);
        promise = 29;
        due("closer(0)", x.closer(0), -1);
        due("closer(1)", x.closer(1), -1);
        due("closer(2)", x.closer(2), 1);
        due("closer(11)", x.closer(11), -3);
        due("closer(-1)", x.closer(-1), -3);
        promise = 30;
        chance("soldIn(0, 0)", x.soldIn(0, 0, 0), x.soldIn(0, 0, 1), 0, 1);
        chance("soldIn(0, 1)", x.soldIn(0, 1, 0), x.soldIn(0, 1, 1), 1, 1);
        chance("soldIn(1, 3)", x.soldIn(1, 3, 0), x.soldIn(1, 3, 1), 5, 9);
        chance("soldIn(2, 3)", x.soldIn(2, 3, 0), x.soldIn(2, 3, 1), 0, 1);
        due("soldIn(3, 11, 0)", x.soldIn(3, 11, 0), -2);
        due("soldIn(-1, 1, 0)", x.soldIn(-1, 1, 0), -2);
        due("soldIn(0, 11, 2)", x.soldIn(0, 11, 2), -2);
        due("soldIn(0, 11, 1)", x.soldIn(0, 11, 1), -3);
        x.visit(0);
        chance("soldIn(0, 0), before", x.soldIn(0, 0, 0), x.soldIn(0, 0, 1), 1, 1);
        x.visit(1);
        promise = 26;
        chance("open(5), shut", x.open(5, 0), x.open(5, 1), 0, 1);
        promise = 27;
        due("likely(100), shut", x.likely(100), 0);
        promise = 28;
        chance("shutsBy(1, 5), shut", x.shutsBy(1, 5, 0), x.shutsBy(1, 5, 1), 0, 1);
        promise = 29;
        due("closer(5), shut", x.closer(5), -1);
        greatChances();
    }

    /** Odds of 54 together, ten days: a hundred times the number below is more than a long. */
    private static void greatChances() {
        StringBuilder text = new StringBuilder("shop;kind price 1;");
        for (int b = 0; b < 6; b++) {
            text.append("buyer purse ").append(b == 5 ? 2 : 0).append(" odds 9;");
        }
        OneOfEach x = Checks.shop(text.toString());
        promise = 26;
        chance("open(10)", x.open(10, 0), x.open(10, 1), 9765625, 60466176);
        promise = 27;
        due("likely(16)", x.likely(16), 1);
        due("likely(17)", x.likely(17), 2);
        due("likely(83)", x.likely(83), 10);
        due("likely(84)", x.likely(84), -1);
        OneOfEach y = Checks.shop("shop;kind price 1;kind price 1;buyer purse 2 odds 9;buyer purse 2 odds 9;buyer purse 0 odds 9;"
            + "buyer purse 0 odds 9;buyer purse 0 odds 9;buyer purse 0 odds 8;lets : who = kind;");
        // 1 less 2 (44 / 53) ^ 10 and (35 / 53) ^ 10: open as long as one of both hasn't come.
        long below = 174887470365513049L;
        long above = 2 * 26559922791424L * 1024L - 2758547353515625L;
        promise = 26;
        chance("open(10)", y.open(10, 0), y.open(10, 1), above, below);
        promise = 29;
        due("closer(10), the first of like ones", y.closer(10), 0);
        OneOfEach z = Checks.shop("shop;kind price 1;buyer purse 2 odds 0;");
        promise = 26;
        chance("open(9), nobody comes", z.open(9, 0), z.open(9, 1), 1, 1);
        promise = 27;
        due("likely(1), nobody comes", z.likely(1), -1);
    }

    // ---- what to hide

    private static void whatToHide() {
        promise = 31;
        OneOfEach x = Checks.shop(CHAIN);
        due("hides(0, 2, 0)", x.hides(0, 2, 0), 0);
        due("hides(1, 2, 0)", x.hides(1, 2, 0), 1);
        due("hides(1, 2, 1)", x.hides(1, 2, 1), 1);
        due("hides(3, 1, 0), the fewest", x.hides(3, 1, 0), 0);
        due("hides(3, 1, 1), the fewest", x.hides(3, 1, 1), 0);
        due("hides(3, 6, 1)", x.hides(3, 6, 1), 1);
        due("hides(4, 1, 0)", x.hides(4, 1, 0), -3);
        due("hides(-1, 1, 0)", x.hides(-1, 1, 0), -3);
        due("hides(0, 0, 0)", x.hides(0, 0, 0), -3);
        due("hides(0, 7, 0)", x.hides(0, 7, 0), -3);
        due("hides(4, 7, 2)", x.hides(4, 7, 2), -2);
        due("hides(0, 1, -1)", x.hides(0, 1, -1), -2);
        due("nothing is hidden", x.count(3), 0);
        x.visit(0);
        x.visit(0);
        due("hides(0, 1, 0), shut", x.hides(0, 1, 0), -5);
        due("hides(4, 1, 0), shut", x.hides(4, 1, 0), -3);
        due("hides(0, 1, 2), shut", x.hides(0, 1, 2), -2);
        OneOfEach pair = Checks.shop("shop;kind price 2;kind price 2;kind price 1;buyer purse 9;lets : kind = 2 and gone = 0 or gone = 1;");
        due("hides(1, 5, 1), least set", pair.hides(1, 5, 1), 0);
        promise = 32;
        OneOfEach y = Checks.shop(LINKED);
        due("rota(0)", y.rota(0), 1);
        due("rota(1)", y.rota(1), 1);
        due("rota(2)", y.rota(2), -2);
        due("rota(-1)", y.rota(-1), -2);
        OneOfEach z = Checks.shop(CHAIN);
        due("rota(0), none such", z.rota(0), -1);
        due("rota(1), none such", z.rota(1), -1);
        OneOfEach none = Checks.shop("shop;kind price 1;kind price 9;buyer purse 2;");
        due("rota(0), it never shuts", none.rota(0), 0);
        due("rota(1), it never shuts", none.rota(1), 0);
        OneOfEach shut = new OneOfEach();
        due("rota(0), shut", shut.rota(0), -5);
        due("rota(2), shut", shut.rota(2), -2);
    }

    // ---- the till

    private static void theTill() {
        promise = 33;
        OneOfEach x = Checks.shop(PAIR);
        chance("earns(0)", x.earns(0, 0), x.earns(0, 1), 0, 1);
        chance("earns(1)", x.earns(1, 0), x.earns(1, 1), 4, 1);
        chance("earns(2)", x.earns(2, 0), x.earns(2, 1), 19, 3);
        chance("earns(3)", x.earns(3, 0), x.earns(3, 1), 71, 9);
        due("earns(9, 0)", x.earns(9, 0), -3);
        due("earns(-1, 0)", x.earns(-1, 0), -3);
        due("earns(9, 2)", x.earns(9, 2), -2);
        x.visit(0);
        chance("earns(1), the till has 4", x.earns(1, 0), x.earns(1, 1), 7, 3);
        promise = 34;
        OneOfEach y = Checks.shop("shop;kind price 1;kind price 9 hidden;buyer purse 8;buyer purse 5 odds 3;wants : 100 - price;");
        due("bestPrice(0, 1)", y.bestPrice(0, 1), 5);
        due("bestPrice(1, 4), hidden: all alike", y.bestPrice(1, 4), 1);
        due("bestPrice(0, 0)", y.bestPrice(0, 0), -3);
        due("bestPrice(0, 5)", y.bestPrice(0, 5), -3);
        due("bestPrice(2, 5)", y.bestPrice(2, 5), -2);
        due("bestPrice(-1, 1)", y.bestPrice(-1, 1), -2);
        due("the price stays", y.kind(0, 0), 1);
        OneOfEach z = Checks.shop("shop;kind price 1 sold;buyer purse 1;");
        due("bestPrice(0, 1), shut", z.bestPrice(0, 1), -5);
        due("bestPrice(0, 0), shut", z.bestPrice(0, 0), -3);
        // Bought once by whoever comes first, at 8 by the one that comes once in four: 8 (1 - 0.75 ^ 4) = 5.47 > 5.
        due("bestPrice(0, 4)", y.bestPrice(0, 4), 8);
        due("bestPrice(0, 3)", y.bestPrice(0, 3), 5);
    }

    // ---- what was gone, who came

    private static void whatWasGone() {
        OneOfEach x = Checks.shop(PAIR);
        promise = 35;
        due("seen(4)", x.seen(4), -2);
        due("seen(-1)", x.seen(-1), -2);
        due("seen(0)", x.seen(0), -6);
        x.numbers(0, 0, 0);
        due("seen, no numbers", x.seen(0), -4);
        x.numbers(0, 0, 13);
        due("seen, 13 numbers", x.seen(0), -4);
        x.numbers(0, 0, 12);
        due("seen, 12 numbers", x.seen(0), 0);
        for (long none : new long[] {3, 8, 20, 29, -1, 1L << 40}) {
            Checks.tray(x, 0, 0, none);
            due("seen with " + none, x.seen(0), -3);
            due("sureGone with " + none, x.sureGone(0), -3);
            due("ask with " + none, x.ask(0), -3);
        }
        // Buyer 0 buys kind 0 if it wasn't sold: with kind 1 and the hidden kind 2 sold or not.
        sights(x, 4, 0, 1, 0);
        // Buyer 0 buys nothing: kind 0 was sold.
        sights(x, 4, 1, 1, 9);
        // Buyer 1 buys kind 1: kind 0 was sold, kind 1 wasn't.
        sights(x, 2, 1, 0, 11);
        sights(x, 2, 0, 0, 0, 11);
        sights(x, 2, 2, 0, 0, 19);
        sights(x, 0, 0, -1, 11, 0);
        sights(x, 0, 0, -1, 2);
        due("sureGone(5)", x.sureGone(5), -2);
        due("sureGone(1)", x.sureGone(1), -6);
        due("ask(5)", x.ask(5), -2);
        due("ask(1)", x.ask(1), -6);
        x.numbers(1, 0, 0);
        due("sureGone, no numbers", x.sureGone(1), -4);
        due("ask, no numbers", x.ask(1), -4);
        cameAndWho();
    }

    private static void sights(OneOfEach x, int sets, int sure, int ask, long... seen) {
        String told = java.util.Arrays.toString(seen);
        Checks.tray(x, 0, seen);
        promise = 35;
        due("seen " + told, x.seen(0), sets);
        promise = 36;
        due("sureGone " + told, x.sureGone(0), sure);
        promise = 37;
        due("ask " + told, x.ask(0), ask);
    }

    private static void cameAndWho() {
        promise = 37;
        OneOfEach x = Checks.shop(PAIR);
        // Behind a 9 of buyer 0, too: kind 1 was sold, or wasn't; buyer 1 tells it, buyer 0 buys nothing either way.
        Checks.tray(x, 0, 9, 9);
        due("ask", x.ask(0), 1);
        promise = 38;
        due("came(4)", x.came(4), -2);
        due("came(3)", x.came(3), -6);
        x.numbers(3, 0, 0);
        due("came, no numbers", x.came(3), -4);
        x.numbers(3, 0, 11);
        due("came, 11 numbers", x.came(3), -4);
        x.numbers(3, 0, 10);
        due("came, 10 numbers", x.came(3), 0);
        for (long none : new long[] {3, -2, 1L << 32}) {
            Checks.tray(x, 3, 0, none);
            due("came with " + none, x.came(3), -3);
            due("who with " + none, x.who(3, 9), -3);
        }
        rows(x, 2, new int[] {3}, 0);
        rows(x, 2, new int[] {3, 2}, 0, 1);
        rows(x, 2, new int[] {3, 2}, -1, -1);
        rows(x, 0, new int[] {0, 0, 0}, -1, -1, -1);
        rows(x, 0, new int[] {0}, 2);
        promise = 39;
        due("who(4, 0)", x.who(4, 0), -2);
        due("who(2, 0)", x.who(2, 0), -6);
        x.numbers(2, 0, 0);
        due("who, no numbers", x.who(2, 0), -4);
        due("who(3, -1)", x.who(3, -1), -7);
        due("who(3, 1)", x.who(3, 1), -7);
        x.visit(0);
        rows(x, 1, new int[] {2}, 1);
        OneOfEach y = Checks.shop("shop;kind price 1;kind price 5;buyer purse 3;buyer purse 4;buyer purse 9;wants : price;");
        rows(y, 4, new int[] {3, 3}, 0, 0);
        rows(y, 2, new int[] {4, 4, 4, 3}, -1, -1, 1, 0);
        rows(y, 3, new int[] {7, 4}, -1, 1);
    }

    private static void rows(OneOfEach x, long count, int[] who, long... gone) {
        String told = java.util.Arrays.toString(gone);
        Checks.tray(x, 3, gone);
        promise = 38;
        due("came " + told, x.came(3), count);
        promise = 39;
        for (int i = 0; i < who.length; i++) {
            due("who " + told + " at " + i, x.who(3, i), who[i]);
        }
    }

    // ---- trays, images

    private static void traysAndImages() {
        numbersAndWrite();
        lists();
        images();
        promise = 45;
        OneOfEach x = Checks.shop(PAIR);
        due("count(-1)", x.count(-1), -1);
        due("count(12)", x.count(12), -1);
        due("count(3)", x.count(3), 4);
        due("count(8)", x.count(8), 3);
        x.feed(0, 0, 0, 0, 0);
        due("count(10)", x.count(10), 20);
        due("count(11)", x.count(11), 7);
    }

    private static void numbersAndWrite() {
        promise = 40;
        OneOfEach x = new OneOfEach();
        due("numbers(4, 0, 1)", x.numbers(4, 0, 1), -2);
        due("numbers(-1, 0, 1)", x.numbers(-1, 0, 1), -2);
        due("numbers(0, 4, 1)", x.numbers(0, 4, 1), -2);
        due("numbers(0, -1, 41)", x.numbers(0, -1, 41), -2);
        due("numbers(0, 0, 41)", x.numbers(0, 0, 41), -3);
        due("numbers(0, 0, -1)", x.numbers(0, 0, -1), -3);
        promise = 41;
        due("write(4, 0, 1)", x.write(4, 0, 1), -2);
        due("write(0, 0, 1), missing", x.write(0, 0, 1), -6);
        promise = 40;
        due("numbers(0, 0, 40)", x.numbers(0, 0, 40), 0);
        promise = 41;
        due("write(0, 40, 1)", x.write(0, 40, 1), -7);
        due("write(0, -1, 1)", x.write(0, -1, 1), -7);
        due("write(0, 39, 200)", x.write(0, 39, 200), -56);
        due("write(0, 0, 127)", x.write(0, 0, 127), 127);
        x.numbers(1, 1, 1);
        due("write, 16 bits", x.write(1, 0, 0x18000), -32768);
        x.numbers(2, 2, 1);
        due("write, 32 bits", x.write(2, 0, 0x180000001L), -2147483647);
        x.numbers(3, 3, 1);
        due("write, 64 bits", x.write(3, 0, Long.MIN_VALUE), Long.MIN_VALUE);
        promise = 40;
        Checks.tell(x, CHAIN);
        Checks.tray(x, 0, 5, 5);
        due("numbers(0, 0, 41), the tray stays", x.numbers(0, 0, 41), -3);
        due("came, as it was", x.came(0), -3);
        due("numbers, all 0", x.numbers(0, 2, 1), 0);
        due("came, of a 0", x.came(0), 1);
        x.numbers(0, 2, 2);
        x.write(0, 0, 7);
        x.numbers(0, 2, 1);
        due("came, of a 0 again", x.came(0), 1);
    }

    private static void lists() {
        promise = 42;
        OneOfEach x = Checks.shop(PAIR);
        due("lists(4)", x.lists(4), -2);
        due("lists(0)", x.lists(0), -6);
        Checks.tray(x, 0, 9, 9, 9);
        due("lists", x.lists(0), 2);
        due("its numbers are deeds, the third as it was", x.judge(0, 0), 2);
        due("and shut it", x.judge(0, 2), 3);
        Checks.tray(x, 1, 9);
        due("lists, one place", x.lists(1), 1);
        due("perform", x.perform(1), 1);
        x.numbers(2, 0, 0);
        due("lists, no places", x.lists(2), 0);
        x.visit(1);
        due("lists, shut", x.lists(0), 0);
        OneOfEach y = Checks.shop("shop;kind price 9;buyer purse 2;");
        due("lists, missing", y.lists(0), -6);
        y.numbers(0, 0, 3);
        due("lists, there is none", y.lists(0), -5);
    }

    private static void images() {
        promise = 43;
        OneOfEach x = Checks.shop(PAIR);
        due("image(2)", x.image(2), -2);
        due("image(-1)", x.image(-1), -2);
        x.seed(42);
        x.days(1);
        x.gift(0);
        x.price(0, 3);
        due("image(1)", x.image(1), 0);
        due("calls that can be undone stay", x.count(9), 4);
        promise = 44;
        due("restore(2)", x.restore(2), -2);
        due("restore(-1)", x.restore(-1), -2);
        due("restore(0)", x.restore(0), -5);
        int[] counts = new int[9];
        for (int i = 0; i < counts.length; i++) {
            counts[i] = x.count(i);
        }
        int drawn = Checks.xOf(x);
        x.add(1, 1);
        x.days(7);
        Checks.tell(x, CHAIN);
        x.visit(0);
        Checks.tray(x, 0, 0);
        x.feed(0, 0, 0, 0, 0);
        due("restore(1)", x.restore(1), 0);
        for (int i = 0; i < counts.length; i++) {
            due("count(" + i + ")", x.count(i), counts[i]);
        }
        due("x", Checks.xOf(x), drawn);
        due("lines", x.count(11), 7);
        due("nothing can be undone", x.count(9), 0);
        due("the tape stays", x.count(10), 20);
        due("trays stay", x.came(0) >= 0 ? 1 : 0, 1);
        due("price", x.kind(0, 0), 3);
        due("buyer", x.buyer(0, 1), 3);
        due("the law", x.buyer(1, 3), 3 & ~counts[2]);
        x.visit(1);
        due("restore(1), again", x.restore(1), 0);
        due("sold", x.count(2), counts[2]);
    }

    // ---- one call behind the other

    private static OneOfEach pairWith(long... numbers) {
        OneOfEach x = Checks.shop(PAIR);
        Checks.tray(x, 0, numbers);
        return x;
    }

    /** Each question as the first one of its object: none lives on what another has left. */
    private static void eachAlone() {
        promise = 19;
        due("ending()", pairWith().ending(), 2);
        promise = 20;
        due("endingBy(1)", pairWith().endingBy(1), 1);
        promise = 21;
        due("endings(2)", pairWith().endings(2), 2);
        promise = 22;
        due("needed()", pairWith().needed(), 2);
        promise = 23;
        due("sellable()", pairWith().sellable(), 3);
        promise = 24;
        due("guards()", Checks.shop(CHAIN).guards(), 1);
        promise = 25;
        due("last()", pairWith().last(), 2);
        promise = 26;
        due("open(3, 1)", pairWith().open(3, 1), 9);
        promise = 27;
        due("likely(34)", pairWith().likely(34), 3);
        promise = 28;
        due("shutsBy(1, 3, 0)", pairWith().shutsBy(1, 3, 0), 5);
        promise = 29;
        due("closer(2)", pairWith().closer(2), 1);
        promise = 30;
        due("soldIn(1, 3, 0)", pairWith().soldIn(1, 3, 0), 5);
        promise = 31;
        due("hides(1, 2, 1)", Checks.shop(CHAIN).hides(1, 2, 1), 1);
        promise = 32;
        due("rota(1)", Checks.shop(LINKED).rota(1), 1);
        promise = 33;
        due("earns(3, 0)", pairWith().earns(3, 0), 71);
        promise = 34;
        due("bestPrice(1, 1), from there on kind 0 is bought", pairWith().bestPrice(1, 1), 4);
        promise = 35;
        due("seen", pairWith(9).seen(0), 4);
        promise = 36;
        due("sureGone", pairWith(9).sureGone(0), 1);
        promise = 37;
        due("ask", pairWith(9).ask(0), 1);
        promise = 38;
        due("came", pairWith(0, 1).came(0), 2);
        promise = 39;
        due("who at 0", pairWith(0, 1).who(0, 0), 3);
        due("who at 1", pairWith(0, 1).who(0, 1), 2);
        promise = 42;
        due("lists", pairWith(7, 7).lists(0), 2);
    }

    /** What was asked ahead of a deed must not stay in what is asked behind it. */
    private static void laterQuestions() {
        promise = 12;
        OneOfEach x = Checks.shop("shop;kind price 5;buyer purse 9;wants : group + sold;");
        x.add(3, 1);
        due("buyer(0, 4)", x.buyer(0, 4), 1);
        x.undo(1);
        x.add(3, 0);
        due("buyer(0, 4), another group", x.buyer(0, 4), -1);
        promise = 13;
        x.undo(1);
        x.add(3, 1);
        due("ending(), kind 0 isn't wanted", x.ending(), -1);
        OneOfEach y = Checks.shop("shop;kind price 5;kind price 6;buyer purse 9;");
        due("buyer(0, 4)", y.buyer(0, 4), 0);
        y.price(1, 4);
        due("buyer(0, 4), cheaper", y.buyer(0, 4), 1);
        y.undo(1);
        due("buyer(0, 4), undone", y.buyer(0, 4), 0);
        y.bestPrice(0, 1);
        due("buyer(0, 4), behind bestPrice", y.buyer(0, 4), 0);
        Checks.tray(y, 0, 1104, 0);
        y.judge(0, 2);
        due("buyer(0, 4), behind judge", y.buyer(0, 4), 0);
        promise = 3;
        Checks.tell(y, "shop;kind price 5;kind price 6;buyer purse 9;wants : price;");
        due("buyer(0, 4), another law", y.buyer(0, 4), 1);
        y.image(0);
        Checks.tell(y, "shop;kind price 5;kind price 6;buyer purse 9;lets : kind = 0;");
        due("buyer(0, 4), another law again", y.buyer(0, 4), 0);
        promise = 44;
        y.restore(0);
        due("buyer(0, 4), the law of the image", y.buyer(0, 4), 1);
        promise = 17;
        Checks.tray(y, 0, 1004, 1003, 0, 0);
        due("perform", y.perform(0), 4);
        due("till", y.count(5), 12);
    }
}
