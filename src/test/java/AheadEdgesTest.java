/** Terms, ==== 3, and promises 19 to 34: what is to come, at each bound that the document names and just beyond it. */
public final class AheadEdgesTest {
    private static final Checks CHECKS = new Checks("AheadEdgesTest");
    private static final String EIGHT = "kind price 1;kind price 2;kind price 3;kind price 4;kind price 5;kind price 6;kind price 7;kind price 8;";
    // One buyer buys kind 0, 1, .. one behind the other.
    private static final String ROW = "shop;" + EIGHT + "buyer purse 9;lets : sold = 0;";
    // Kinds 0 to 2 one behind the other; kind 3 as soon as more than so many are gone.
    private static final String LATE = "shop;kind price 1;kind price 2;kind price 3;kind price 4;buyer purse 9;"
        + "lets : sold = 0 and [ kind < 3 or gone > ";

    public static void main(String[] args) {
        newObject();
        endingLength();
        endingOrder();
        endingsOfN();
        needed();
        sellable();
        guards();
        last();
        openIn();
        likelyIn();
        shutsBy();
        closer();
        soldIn();
        hidesHowMany();
        hidesHowLong();
        hidesWhich();
        rota();
        earns();
        bestPrice();
        CHECKS.end();
    }

    private static void due(String call, long got, long want) {
        CHECKS.due(call, got, want);
    }

    private static void newObject() {
        CHECKS.about("1: No KINDS, no BUYERS; it is SHUT");
        OneOfEach x = new OneOfEach();
        int[] counts = {0, 0, 0, 0, 1, 0, 0, 0, 0, 0, 0, 0};
        for (int what = 0; what < counts.length; what++) {
            due("count(" + what + ")", x.count(what), counts[what]);
        }
        due("kind(0, 0)", x.kind(0, 0), -2);
        due("buyer(0, 0)", x.buyer(0, 0), -2);
        due("ending()", x.ending(), 0);
        due("endingBy(0)", x.endingBy(0), -1);
        due("endings(0)", x.endings(0), 1);
        due("endings(15)", x.endings(15), 0);
        due("needed()", x.needed(), 0);
        due("sellable()", x.sellable(), 0);
        due("guards()", x.guards(), 0);
        due("last()", x.last(), 0);
        chance("open(10)", x.open(10, 0), x.open(10, 1), 0, 1);
        due("likely(100)", x.likely(100), 0);
        due("closer(10)", x.closer(10), -1);
        chance("earns(8)", x.earns(8, 0), x.earns(8, 1), 0, 1);
        for (int tray = 0; tray < 4; tray++) {
            due("judge(" + tray + ", 0)", x.judge(tray, 0), -6);
        }
        due("restore(0)", x.restore(0), -5);
        due("restore(1)", x.restore(1), -5);
    }

    // ---- how it ends

    private static void endingLength() {
        CHECKS.about("19: how many VISITS (0: it is SHUT). NONE: there are none");
        OneOfEach x = Checks.shop(ROW);
        for (int left = 8; left >= 0; left--) {
            due("ending()", x.ending(), left);
            due("endingBy(left - 1)", x.endingBy(left - 1), left == 0 ? -3 : 0);
            due("endingBy(left)", x.endingBy(left), -1);
            due("visit(0)", x.visit(0), left == 0 ? -12 : 8 - left);
        }
        due("nobody comes", Checks.shop("shop;kind price 1;").ending(), -1);
        due("too dear by one", Checks.shop("shop;kind price 5;buyer purse 4;wants : 1;").ending(), -1);
        due("just not too dear", Checks.shop("shop;kind price 5;buyer purse 5;wants : 1;").ending(), 1);
        due("wanted 0", Checks.shop("shop;kind price 5;buyer purse 5;").ending(), -1);
        due("odds of 0 are no matter", Checks.shop("shop;kind price 5;buyer purse 6 odds 0;").ending(), 1);
        due("a hidden one isn't needed", Checks.shop("shop;kind price 5;kind price 99 hidden;buyer purse 6;").ending(), 1);
        due("one of two never", Checks.shop("shop;kind price 5;kind price 99;buyer purse 6;").ending(), -1);
    }

    private static void endingOrder() {
        CHECKS.about("ENDING: of all the fewest, of like ones the first by BUYERS");
        // Buyer 0 buys nothing, 1 to 5 all buy what is next.
        OneOfEach x = Checks.shop("shop;" + EIGHT + "buyer purse 0;" + "buyer purse 9;".repeat(5) + "lets : sold = 0;");
        for (int i = 0; i < 8; i++) {
            due("endingBy(" + i + ")", x.endingBy(i), 1);
        }
        due("endingBy(8)", x.endingBy(8), -1);
        // Buyer 0 buys kind 0 again and again, buyer 1 kind 1 ahead of kind 0, buyer 2 nothing but kind 0.
        OneOfEach y = Checks.shop("shop;kind price 1;kind price 2;buyer purse 1;buyer purse 3;buyer purse 1;"
            + "wants : price;");
        due("ending()", y.ending(), 2);
        due("endingBy(0)", y.endingBy(0), 0);
        due("endingBy(1)", y.endingBy(1), 1);
        // Each buys the kind of its own number: whoever goes first, the rows are like ones.
        OneOfEach z = Checks.shop("shop;kind price 1;kind price 1;kind price 1;buyer purse 2;buyer purse 2;buyer purse 2;lets : kind = 2 - who;");
        for (int i = 0; i < 3; i++) {
            due("endingBy(" + i + ")", z.endingBy(i), i);
        }
        // Buyer 0 first would buy the last thing that buyer 1 could have bought.
        OneOfEach w = Checks.shop("shop;kind price 1;kind price 2;buyer purse 9;buyer purse 1;wants : 10 - price;"
            + "lets : who = 0 and sold = 0 or who = 1 and gone = 1 and kind = 0;");
        due("endingBy(0)", w.endingBy(0), 0);
        due("endingBy(1)", w.endingBy(1), 0);
        CHECKS.about("Each buys something, or it isn't one of these");
        OneOfEach v = Checks.shop("shop;kind price 5;buyer purse 4;buyer purse 6;");
        due("ending()", v.ending(), 1);
        due("endingBy(0)", v.endingBy(0), 1);
    }

    private static void endingsOfN() {
        CHECKS.about("21: In how many rows of just n VISITS (0 to 15), each buying something, it is SHUT by the last one");
        OneOfEach x = Checks.shop(ROW);
        for (int n = 0; n <= 15; n++) {
            due("endings(" + n + ")", x.endings(n), n == 8 ? 1 : 0);
        }
        OneOfEach shut = Checks.shop("shop;kind price 1 sold;buyer purse 9;");
        for (int n = 0; n <= 15; n++) {
            due("endings(" + n + "), shut", shut.endings(n), n == 0 ? 1 : 0);
        }
        // Five buy kind 0 again and again, the sixth shuts it.
        OneOfEach y = Checks.shop("shop;kind price 1;kind price 5;" + "buyer purse 4;".repeat(5) + "buyer purse 5;wants : price;"
            + "lets : kind = 0 or gone > 0 and who = 5;");
        long ways = 1;
        due("endings(0)", y.endings(0), 0);
        due("endings(1)", y.endings(1), 0);
        for (int n = 2; n <= 15; n++) {
            // The first of six whom ever buys kind 0, then n - 2 of five, then the sixth.
            ways = n == 2 ? 6 : ways * 5;
            due("endings(" + n + ")", y.endings(n), ways);
        }
        due("endings(16)", y.endings(16), -3);
        due("endings(-1)", y.endings(-1), -3);
    }

    private static void needed() {
        CHECKS.about("22: BUYERS without each of whom there is no ENDING, as bits (0: there is none anyhow)");
        String six = "shop;" + "kind price 1;".repeat(6) + "buyer purse 2;".repeat(6);
        due("each has its own kind", Checks.shop(six + "lets : who = kind;").needed(), 63);
        due("each can", Checks.shop(six + "lets : sold = 0;").needed(), 0);
        due("the last one alone", Checks.shop(six + "lets : sold = 0 and [ who = 5 or kind < 5 ];").needed(), 32);
        due("none anyhow", Checks.shop(six + "lets : who = kind and kind < 5;").needed(), 0);
        due("shut", Checks.shop("shop;kind price 1 sold;buyer purse 2;").needed(), 0);
        due("one", Checks.shop("shop;kind price 1;buyer purse 2 odds 0;").needed(), 1);
    }

    private static void sellable() {
        CHECKS.about("23: KINDS that can be SOLD some time (or were), as bits");
        due("all eight", Checks.shop(ROW).sellable(), 255);
        due("nobody comes", Checks.shop("shop;" + EIGHT).sellable(), 0);
        due("that were", Checks.shop("shop;kind price 9 sold;kind price 9 hidden sold;kind price 9;kind price 9 hidden;buyer purse 1;").sellable(), 3);
        due("shut", Checks.shop("shop;kind price 1 sold;kind price 1 hidden;buyer purse 2;").sellable(), 1);
        due("with the last one it is shut", Checks.shop("shop;kind price 1;kind price 1 hidden;buyer purse 2;").sellable(), 1);
        due("but for the dear one", Checks.shop("shop;kind price 9;kind price 1;buyer purse 2;").sellable(), 2);
    }

    private static void guards() {
        CHECKS.about("24: KINDS, not HIDDEN, each of which, HIDDEN now, would leave no ENDING (0: there is none anyhow)");
        String chain = "shop;" + "kind price 1;".repeat(8) + "buyer purse 2;lets : kind = gone;";
        due("all but the last one", Checks.shop(chain).guards(), 127);
        due("none anyhow", Checks.shop(chain + "lets : kind = gone and kind < 7;").guards(), 0);
        due("shut", Checks.shop("shop;kind price 1 sold;buyer purse 2;").guards(), 0);
        due("one alone: hidden, it is shut", Checks.shop("shop;kind price 1;buyer purse 2;").guards(), 0);
        due("hidden ones aren't asked", Checks.shop("shop;kind price 1 hidden;kind price 1;kind price 1;buyer purse 2;lets : kind = gone + 1;").guards(), 2);
        due("one that was sold may be", Checks.shop("shop;kind price 2 sold;kind price 1;buyer purse 2;lets : kind = 1;wants : 1;").guards(), 0);
    }

    private static void last() {
        CHECKS.about("25: KINDS, not HIDDEN, of each of which there are VISITS (or none) behind which it alone of those not HIDDEN wasn't SOLD");
        due("one row", Checks.shop(ROW).last(), 128);
        due("without visits", Checks.shop("shop;kind price 1 sold;kind price 99;buyer purse 2;").last(), 2);
        due("without buyers", Checks.shop("shop;kind price 1;").last(), 1);
        due("shut", Checks.shop("shop;kind price 1 sold;buyer purse 2;").last(), 0);
        due("hidden ones don't count", Checks.shop("shop;kind price 1;kind price 2 hidden;kind price 3;buyer purse 4;lets : sold = 0;").last(), 4);
        String six = "shop;" + "kind price 1;".repeat(6) + "buyer purse 2;".repeat(6) + "lets : who = kind;";
        due("each of six", Checks.shop(six).last(), 63);
        due("two that are never sold", Checks.shop("shop;kind price 1;kind price 99;kind price 99;buyer purse 2;").last(), 0);
    }

    // ---- chances

    private static void chance(String call, long above, long below, long wantAbove, long wantBelow) {
        due(call + ", above", above, wantAbove);
        due(call + ", below", below, wantBelow);
    }

    private static void openIn() {
        CHECKS.about("26: CHANCE that it isn't SHUT in n DAYS (0 to 10), in lowest terms");
        OneOfEach x = Checks.shop(ROW);
        for (int n = 0; n <= 10; n++) {
            chance("open(" + n + ")", x.open(n, 0), x.open(n, 1), n < 8 ? 1 : 0, 1);
        }
        OneOfEach half = Checks.shop("shop;kind price 1;buyer purse 2 odds 4;buyer purse 0 odds 4;");
        for (int n = 0; n <= 10; n++) {
            chance("open(" + n + ")", half.open(n, 0), half.open(n, 1), 1, 1 << n);
        }
        OneOfEach shut = Checks.shop("shop;kind price 1 sold;buyer purse 2;");
        chance("open(0), shut", shut.open(0, 0), shut.open(0, 1), 0, 1);
        chance("open(10), shut", shut.open(10, 0), shut.open(10, 1), 0, 1);
        CHECKS.about("CHANCE: if all odds are 0, nobody comes");
        OneOfEach none = Checks.shop("shop;kind price 1;buyer purse 2 odds 0;buyer purse 2 odds 0;");
        for (int n = 0; n <= 10; n++) {
            chance("open(" + n + ")", none.open(n, 0), none.open(n, 1), 1, 1);
        }
        due("closer(10)", none.closer(10), -1);
        chance("shutsBy(0, 10)", none.shutsBy(0, 10, 0), none.shutsBy(0, 10, 1), 0, 1);
        chance("earns(8)", none.earns(8, 0), none.earns(8, 1), 0, 1);
        chance("soldIn(0, 10)", none.soldIn(0, 10, 0), none.soldIn(0, 10, 1), 0, 1);
        OneOfEach empty = Checks.shop("shop;kind price 1;");
        chance("open(10), no buyers", empty.open(10, 0), empty.open(10, 1), 1, 1);
        CHECKS.about("CHANCE: one BUYER comes on each DAY by the odds; in lowest terms (54 together, 10 DAYS)");
        StringBuilder text = new StringBuilder("shop;kind price 1;");
        for (int b = 0; b < 6; b++) {
            text.append("buyer purse ").append(b == 0 ? 2 : 0).append(" odds ").append(b == 5 ? 8 : 9).append(";");
        }
        OneOfEach most = Checks.shop(text.toString());
        // 44 of 53 come for nothing: (44 / 53) ^ 10.
        chance("open(10)", most.open(10, 0), most.open(10, 1), 27197360938418176L, 174887470365513049L);
    }

    private static void likelyIn() {
        CHECKS.about("27: The fewest DAYS (0 to 10) in which it is SHUT as likely as m in 100 (0 to 100) at least. NONE: none are");
        OneOfEach half = Checks.shop("shop;kind price 1;buyer purse 2;buyer purse 0;");
        int[] ms = {0, 1, 49, 50, 51, 74, 75, 76, 87, 88, 93, 94, 96, 97, 98, 99, 100};
        int[] days = {0, 1, 1, 1, 2, 2, 2, 3, 3, 4, 4, 5, 5, 6, 6, 7, -1};
        for (int i = 0; i < ms.length; i++) {
            due("likely(" + ms[i] + ")", half.likely(ms[i]), days[i]);
        }
        // 1 - 0.9 ^ n is 0.6513 in 10 days, 0.686 in 11.
        OneOfEach tenth = Checks.shop("shop;kind price 1;buyer purse 2;buyer purse 0 odds 9;");
        due("likely(10)", tenth.likely(10), 1);
        due("likely(11)", tenth.likely(11), 2);
        due("likely(65)", tenth.likely(65), 10);
        due("likely(66)", tenth.likely(66), -1);
        OneOfEach row = Checks.shop(ROW);
        due("likely(0), it is open", row.likely(0), 0);
        due("likely(1)", row.likely(1), 8);
        due("likely(100)", row.likely(100), 8);
        OneOfEach shut = Checks.shop("shop;kind price 1 sold;");
        due("likely(100), shut", shut.likely(100), 0);
    }

    private static void shutsBy() {
        CHECKS.about("28: CHANCE that a BUYER's VISIT SHUTS it in n DAYS (0 to 10)");
        OneOfEach x = Checks.shop("shop;kind price 1;buyer purse 2;buyer purse 2 odds 2;buyer purse 0;buyer purse 2 odds 0;");
        chance("shutsBy(0, 0)", x.shutsBy(0, 0, 0), x.shutsBy(0, 0, 1), 0, 1);
        chance("shutsBy(0, 1)", x.shutsBy(0, 1, 0), x.shutsBy(0, 1, 1), 1, 4);
        chance("shutsBy(1, 1)", x.shutsBy(1, 1, 0), x.shutsBy(1, 1, 1), 1, 2);
        chance("shutsBy(1, 2)", x.shutsBy(1, 2, 0), x.shutsBy(1, 2, 1), 5, 8);
        // A third of what isn't open in ten days: (1 - 4 ^ -10) / 3.
        chance("shutsBy(0, 10)", x.shutsBy(0, 10, 0), x.shutsBy(0, 10, 1), 349525, 1048576);
        chance("shutsBy(2, 10), buys nothing", x.shutsBy(2, 10, 0), x.shutsBy(2, 10, 1), 0, 1);
        chance("shutsBy(3, 10), never comes", x.shutsBy(3, 10, 0), x.shutsBy(3, 10, 1), 0, 1);
        x.visit(0);
        chance("shutsBy(0, 10), shut already", x.shutsBy(0, 10, 0), x.shutsBy(0, 10, 1), 0, 1);
    }

    private static void closer() {
        CHECKS.about("29: The BUYER likeliest to SHUT it in n DAYS (0 to 10), the first. NONE: nobody can");
        OneOfEach x = Checks.shop("shop;kind price 1;buyer purse 0 odds 9;buyer purse 2;buyer purse 2 odds 2;buyer purse 2 odds 2;");
        due("closer(0)", x.closer(0), -1);
        due("closer(1)", x.closer(1), 2);
        due("closer(10)", x.closer(10), 2);
        OneOfEach row = Checks.shop(ROW);
        due("closer(7)", row.closer(7), -1);
        due("closer(8)", row.closer(8), 0);
        due("nobody can", Checks.shop("shop;kind price 9;buyer purse 2;").closer(10), -1);
        due("never comes", Checks.shop("shop;kind price 1;buyer purse 2 odds 0;buyer purse 0;").closer(10), -1);
        due("shut", Checks.shop("shop;kind price 1 sold;buyer purse 2;").closer(10), -1);
    }

    private static void soldIn() {
        CHECKS.about("30: CHANCE that a KIND was SOLD in n DAYS (0 to 10), or was before");
        OneOfEach row = Checks.shop(ROW);
        for (int k = 0; k < 8; k++) {
            chance("soldIn(" + k + ", k)", row.soldIn(k, k, 0), row.soldIn(k, k, 1), 0, 1);
            chance("soldIn(" + k + ", k + 1)", row.soldIn(k, k + 1, 0), row.soldIn(k, k + 1, 1), 1, 1);
            chance("soldIn(" + k + ", 9), shut by then", row.soldIn(k, 9, 0), row.soldIn(k, 9, 1), 1, 1);
            chance("soldIn(" + k + ", 10)", row.soldIn(k, 10, 0), row.soldIn(k, 10, 1), 1, 1);
        }
        OneOfEach x = Checks.shop("shop;kind price 9 sold;kind price 9 sold hidden;kind price 1 hidden;kind price 1;kind price 99;"
            + "buyer purse 3;buyer purse 0 odds 2;");
        chance("soldIn(0, 0), before", x.soldIn(0, 0, 0), x.soldIn(0, 0, 1), 1, 1);
        chance("soldIn(1, 10), before and hidden", x.soldIn(1, 10, 0), x.soldIn(1, 10, 1), 1, 1);
        chance("soldIn(2, 10), hidden", x.soldIn(2, 10, 0), x.soldIn(2, 10, 1), 0, 1);
        chance("soldIn(3, 0)", x.soldIn(3, 0, 0), x.soldIn(3, 0, 1), 0, 1);
        chance("soldIn(3, 1)", x.soldIn(3, 1, 0), x.soldIn(3, 1, 1), 1, 3);
        chance("soldIn(3, 2)", x.soldIn(3, 2, 0), x.soldIn(3, 2, 1), 5, 9);
        chance("soldIn(3, 10)", x.soldIn(3, 10, 0), x.soldIn(3, 10, 1), 58025, 59049);
        chance("soldIn(4, 10), too dear", x.soldIn(4, 10, 0), x.soldIn(4, 10, 1), 0, 1);
    }

    // ---- what to hide

    private static void hid(String text, int m, int n, int set) {
        OneOfEach x = Checks.shop(text);
        due("hides(" + m + ", " + n + ", 0) of " + text, x.hides(m, n, 0), Integer.bitCount(set));
        due("hides(" + m + ", " + n + ", 1) of " + text, x.hides(m, n, 1), set);
    }

    private static void hidesHowMany() {
        CHECKS.about("31: Which m KINDS at most (0 to 3)");
        // With more than t to be gone ahead of kind 3, all but t of the other three must be hidden so that it never shuts.
        int[] sets = {7, 3, 1};
        for (int t = 0; t < 3; t++) {
            for (int m = 0; m <= 3; m++) {
                hid(LATE + t + " ];", m, 6, m >= 3 - t ? sets[t] : 0);
            }
        }
        // Four would be needed.
        String five = "shop;" + "kind price 1;".repeat(5) + "buyer purse 9;lets : sold = 0 and [ kind < 4 or gone > 0 ];";
        hid(five, 3, 6, 0);
    }

    private static void hidesHowLong() {
        CHECKS.about("31: likeliest not SHUT in n DAYS (1 to 6), the fewest of like ones");
        for (int n = 1; n <= 6; n++) {
            hid(LATE + "0 ];", 3, n, n < 4 ? 0 : 7);
            hid(LATE + "2 ];", 3, n, n < 4 ? 0 : 1);
        }
        String six = "shop;" + "kind price 1;".repeat(6) + "buyer purse 9;lets : sold = 0 and [ kind < 5 or gone > 4 ];";
        hid(six, 1, 5, 0);
        hid(six, 1, 6, 1);
        hid("shop;" + "kind price 1;".repeat(7) + "buyer purse 9;lets : sold = 0 and [ kind < 6 or gone > 5 ];", 1, 6, 0);
    }

    private static void hidesWhich() {
        CHECKS.about("31: of those not HIDDEN now, the fewest of like ones, the least set as bits");
        String hidden = "shop;kind price 1 hidden;kind price 2;kind price 3;kind price 4;buyer purse 9;lets : sold = 0 and [ kind < 3 or gone > 1 ];";
        hid(hidden, 1, 6, 2);
        hid(hidden, 3, 6, 2);
        hid(hidden, 0, 6, 0);
        hid("shop;kind price 1;buyer purse 9;", 3, 6, 0);
        hid("shop;kind price 1;kind price 2;buyer purse 9;lets : sold = 0;", 3, 6, 0);
        // Hidden, a kind that is dear is needed no more: that is never better.
        hid("shop;kind price 1;kind price 99;buyer purse 9;", 3, 6, 0);
        // Kind 2 behind kind 0, kind 1 behind kind 2: to hide 0 or 2 is alike, 0 is less.
        hid("shop;kind price 1;kind price 1;kind price 1;buyer purse 9;lets : gone = 0 and kind = 0 or gone = 1 and kind = 2 or gone = 2 and kind = 1;",
            1, 6, 1);
        // Two buyers, each its own kind: to hide one leaves one, which is sold sooner.
        hid("shop;kind price 1;kind price 1;buyer purse 9;buyer purse 9;lets : who = kind;", 2, 3, 0);
    }

    private static void rotaIs(String text, int set) {
        OneOfEach x = Checks.shop(text);
        due("rota(0) of " + text, x.rota(0), set < 0 ? -1 : Integer.bitCount(set));
        due("rota(1) of " + text, x.rota(1), set);
        due("nothing is hidden by it", x.count(3), Checks.shop(text).count(3));
    }

    private static void rota() {
        CHECKS.about("32: The fewest KINDS to HIDE now so that there is no ENDING, though each BUYER that would buy something now would "
            + "so then, too, the least set of like ones. NONE: there are none such");
        rotaIs(LATE + "2 ];", 1);
        rotaIs(LATE + "1 ];", 3);
        rotaIs(LATE + "0 ];", -1);
        rotaIs("shop;kind price 1;buyer purse 9;", -1);
        rotaIs("shop;kind price 1;kind price 99;buyer purse 9;", 0);
        rotaIs("shop;kind price 1;kind price 2;buyer purse 9;lets : sold = 0;", -1);
        // As LATE, but a second buyer buys kind 0 alone: kind 1 must go, then, and not kind 0.
        rotaIs(LATE + "2 ] and [ who = 0 or kind = 0 ];buyer purse 9;", 2);
        rotaIs(LATE + "2 ] and [ who = 1 or kind = 0 ];buyer purse 9;", 2);
        rotaIs(LATE + "2 ] and [ who = 1 or kind = who ];buyer purse 9;buyer purse 9;", 2);
        // A buyer that buys nothing now needn't then; one whose odds are 0 must.
        rotaIs(LATE + "2 ] and [ who = 0 or kind = 0 ];buyer purse 0;", 1);
        rotaIs(LATE + "2 ] and [ who = 0 or kind = 0 ];buyer purse 9 odds 0;", 2);
        // Six buyers, as many as there can be: all buy kind 0 now, behind it the first alone kind 1, and then kind 2.
        rotaIs("shop;kind price 1;kind price 2;kind price 3;" + "buyer purse 9;".repeat(6)
            + "lets : sold = 0 and [ kind = 0 or kind = 1 and who = 0 or kind = 2 and gone > 1 ];", 2);
        CHECKS.about("32: of those not HIDDEN now");
        rotaIs("shop;kind price 1 hidden;kind price 2;kind price 3;kind price 4;buyer purse 9;lets : sold = 0 and [ kind < 3 or gone > 1 ];", 2);
        // Six of eight: kind 7 can be bought always, kind 6 with two gone.
        rotaIs("shop;" + "kind price 1;".repeat(8) + "buyer purse 9;lets : kind = 7 or kind < 6 or gone > 1;wants : 99 - kind * 9 - sold * 98;", 63);
    }

    // ---- the till

    private static void earns() {
        CHECKS.about("33: What it takes in n DAYS (0 to 8), the mean by CHANCE, in lowest terms");
        OneOfEach row = Checks.shop(ROW);
        int[] sums = {0, 1, 3, 6, 10, 15, 21, 28, 36};
        for (int n = 0; n <= 8; n++) {
            chance("earns(" + n + ")", row.earns(n, 0), row.earns(n, 1), sums[n], 1);
        }
        due("earns(9, 0)", row.earns(9, 0), -3);
        row.visit(0);
        chance("earns(0), the till has 1", row.earns(0, 0), row.earns(0, 1), 0, 1);
        chance("earns(8), shut behind 7", row.earns(8, 0), row.earns(8, 1), 35, 1);
        OneOfEach x = Checks.shop("shop;kind price 3;kind price 99;buyer purse 9 odds 2;buyer purse 0 odds 4;");
        for (int n = 0; n <= 8; n++) {
            chance("earns(" + n + ")", x.earns(n, 0), x.earns(n, 1), n, 1);
        }
        OneOfEach y = Checks.shop("shop;kind price 5;buyer purse 9 odds 5;buyer purse 0 odds 5;");
        chance("earns(1)", y.earns(1, 0), y.earns(1, 1), 5, 2);
        chance("earns(8), sold once", y.earns(8, 0), y.earns(8, 1), 1275, 256);
        OneOfEach dear = Checks.shop("shop;kind price 99;kind price 98 hidden;buyer purse 999 odds 9;" + "buyer purse 0 odds 9;".repeat(4)
            + "buyer purse 0 odds 8;");
        // 99 (1 - (44 / 53) ^ 8).
        chance("earns(8)", dear.earns(8, 0), dear.earns(8, 1), 4772935211828355L, 62259690411361L);
    }

    private static void bestPrice() {
        CHECKS.about("34: The PRICE (1 to 99) of a KIND by which it takes most in n DAYS (1 to 4), the least of like ones");
        due("the dearest", Checks.shop("shop;kind price 1;buyer purse 999;").bestPrice(0, 1), 99);
        due("the purse, if it wants it so", Checks.shop("shop;kind price 1;buyer purse 50;wants : 1;").bestPrice(0, 4), 50);
        due("one below the purse", Checks.shop("shop;kind price 1;buyer purse 50;").bestPrice(0, 4), 49);
        due("all alike: the least", Checks.shop("shop;kind price 7;buyer purse 0;").bestPrice(0, 4), 1);
        due("hidden: all alike", Checks.shop("shop;kind price 7;kind price 7 hidden;buyer purse 9;").bestPrice(1, 4), 1);
        due("1 alone is bought", Checks.shop("shop;kind price 7;buyer purse 1;wants : 1;").bestPrice(0, 1), 1);
        due("99 alone is bought", Checks.shop("shop;kind price 7;buyer purse 99;wants : price - 98;").bestPrice(0, 1), 99);
        // Two days: sold at 60 to the one who comes half the time, or at 40 to both; 60 * 3 / 4 > 40.
        String two = "shop;kind price 1;buyer purse 60;buyer purse 40;wants : 1;";
        int[] best = {40, 60, 60, 60};
        // One day: 60 / 2 < 40.
        for (int n = 1; n <= 4; n++) {
            due("bestPrice(0, " + n + ")", Checks.shop(two).bestPrice(0, n), best[n - 1]);
        }
        // Above 30 the buyer takes kind 1 first, in one day; in two days it takes both, whatever the order.
        String order = "shop;kind price 1;kind price 30;buyer purse 99;wants : 100 - price;lets : sold = 0;";
        due("bestPrice(0, 1)", Checks.shop(order).bestPrice(0, 1), 30);
        due("bestPrice(0, 2)", Checks.shop(order).bestPrice(0, 2), 99);
        due("bestPrice(1, 4)", Checks.shop(order).bestPrice(1, 4), 99);
        due("one that was sold", Checks.shop("shop;kind price 5 sold;kind price 99;buyer purse 9;wants : 1;").bestPrice(0, 1), 9);
    }
}
