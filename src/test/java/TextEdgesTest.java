/** Terms, ==== 1: what THE SHOP's text may have, at each bound and just beyond it; which FAULT, and where. */
public final class TextEdgesTest {
    private static final Checks CHECKS = new Checks("TextEdgesTest");

    public static void main(String[] args) {
        lengths();
        lines();
        prices();
        groups();
        purses();
        mindsAndOdds();
        howManyKinds();
        howManyBuyers();
        laterOnesStrike();
        nesting();
        bytes();
        tokens();
        digits();
        firstAlongTheText();
        leastKind();
        theEnd();
        whereTokensStand();
        CHECKS.end();
    }

    /** A text that is read, of so many lines. */
    private static OneOfEach good(String text, int lines) {
        OneOfEach x = new OneOfEach();
        String told = brief(text);
        CHECKS.due("shop of " + told, Checks.tell(x, text), lines);
        CHECKS.due("fault(0) of " + told, x.fault(0), 0);
        CHECKS.due("fault(1) of " + told, x.fault(1), -1);
        CHECKS.due("count(11) of " + told, x.count(11), lines);
        return x;
    }

    /** A text whose fault stands where a second text begins. */
    private static void bad(String ahead, String from, int fault) {
        bad(ahead + from, fault, ahead.length());
    }

    private static void bad(String text, int fault, int place) {
        OneOfEach x = new OneOfEach();
        String told = brief(text);
        CHECKS.due("shop of " + told, Checks.tell(x, text), -30 - fault);
        CHECKS.due("fault(0) of " + told, x.fault(0), fault);
        CHECKS.due("fault(1) of " + told, x.fault(1), place);
        CHECKS.due("count(11) of " + told, x.count(11), 0);
    }

    private static String brief(String text) {
        return text.length() <= 120 ? text : text.substring(0, 60) + " .. " + text.substring(text.length() - 50);
    }

    private static void lengths() {
        CHECKS.about("THE SHOP is a TEXT of at most 900 bytes");
        String last = "kind price 7;";
        for (int length : new int[] {880, 881, 899, 900}) {
            OneOfEach x = good("shop;" + " ".repeat(length - 5 - last.length()) + last, 2);
            CHECKS.due("its price", x.kind(0, 0), 7);
        }
        bad("shop;" + " ".repeat(894), "?", 1);
        bad("shop;" + " ".repeat(894), "k", 2);
        bad("shop" + " ".repeat(896), "", 2);
        bad("", ";".repeat(900), 2);
        bad("shop;", "(".repeat(895), 2);
        bad("shop;wants:", "*".repeat(889), 2);
        OneOfEach x = new OneOfEach();
        Checks.feed(x, "shop;" + " ".repeat(895));
        CHECKS.due("a feed more", x.feed(0, 0, 0, 0, 0), -5);
        CHECKS.due("shop(901)", x.shop(901), -3);
        CHECKS.due("shop(900)", x.shop(900), 1);
    }

    private static void lines() {
        CHECKS.about("shop ; { LINE ; }; how many LINES (shop, too)");
        good("shop;", 1);
        good(" \n shop \n ; \n ", 1);
        good("shop;kind price 1;", 2);
        good("shop;" + "lets:1=1;".repeat(98) + "wants:1;", 100);
        good("shop;" + "wants:1;".repeat(111), 112);
        bad("shop", "", 2);
        bad("shop;", ";", 2);
        bad("shop;kind price 1;", ";", 2);
        bad("shop;kind price 1", "", 2);
        bad("shop;kind price 1 ", "buyer purse 1;", 2);
        bad("shop ", "kind price 1;", 2);
        CHECKS.about("without one: no KINDS, no BUYERS");
        OneOfEach bare = new OneOfEach();
        CHECKS.due("kinds", bare.count(0), 0);
        CHECKS.due("buyers", bare.count(1), 0);
        CHECKS.due("lines", bare.count(11), 0);
    }

    private static void prices() {
        CHECKS.about("kind: its PRICE, 1 to 99");
        String[] told = {"1", "01", "001", "2", "98", "99", "099"};
        int[] prices = {1, 1, 1, 2, 98, 99, 99};
        for (int i = 0; i < told.length; i++) {
            CHECKS.due("price " + told[i], good("shop;kind price " + told[i] + ";", 2).kind(0, 0), prices[i]);
        }
        for (String beyond : new String[] {"0", "00", "000", "100", "101", "999"}) {
            bad("shop;kind price ", beyond + ";", 3);
        }
        bad("shop;kind price ", "1000;", 1);
        bad("shop;kind price ", "0001;", 1);
        bad("shop;kind ", "1;", 2);
        bad("shop;kind price ", ";", 2);
        bad("shop;kind", ";", 2);
    }

    private static void groups() {
        CHECKS.about("group 0 to 9 (0)");
        CHECKS.due("without one", good("shop;kind price 5;", 2).kind(0, 1), 0);
        for (int group = 0; group <= 9; group++) {
            CHECKS.due("group", good("shop;kind price 5 group " + group + ";", 2).kind(0, 1), group);
        }
        CHECKS.due("group 009", good("shop;kind price 5 group 009;", 2).kind(0, 1), 9);
        CHECKS.due("a kind without one behind a kind with one",
            good("shop;kind price 5 group 7;kind price 5;", 3).kind(1, 1), 0);
        for (String beyond : new String[] {"10", "010", "11", "99", "100", "999"}) {
            bad("shop;kind price 5 group ", beyond + ";", 3);
        }
        bad("shop;kind price 5 group ", "0009;", 1);
        bad("shop;kind price 5 group ", ";", 2);
        CHECKS.about("sold: it was SOLD already; hidden: it is HIDDEN");
        OneOfEach x = good("shop;kind price 1;kind price 1 sold;kind price 1 hidden;kind price 1 hidden sold hidden sold;", 5);
        CHECKS.due("sold ones", x.count(2), 10);
        CHECKS.due("hidden ones", x.count(3), 12);
        for (int k = 0; k < 4; k++) {
            CHECKS.due("kind(" + k + ", 2)", x.kind(k, 2), k % 2);
            CHECKS.due("kind(" + k + ", 3)", x.kind(k, 3), k / 2);
        }
    }

    private static void purses() {
        CHECKS.about("buyer: its PURSE, 0 to 999");
        String[] told = {"0", "000", "1", "007", "998", "999"};
        int[] purses = {0, 0, 1, 7, 998, 999};
        for (int i = 0; i < told.length; i++) {
            CHECKS.due("purse " + told[i], good("shop;buyer purse " + told[i] + ";", 2).buyer(0, 0), purses[i]);
        }
        bad("shop;buyer purse ", "1000;", 1);
        bad("shop;buyer purse ", "0000;", 1);
        bad("shop;buyer ", "9;", 2);
        bad("shop;buyer purse ", ";", 2);
        bad("shop;buyer", ";", 2);
    }

    private static void mindsAndOdds() {
        CHECKS.about("mind 0 to 9 (0); odds 0 to 9 (1)");
        OneOfEach plain = good("shop;buyer purse 5 mind 8 odds 7;buyer purse 5;", 3);
        CHECKS.due("without a mind", plain.buyer(1, 1), 0);
        CHECKS.due("without odds", plain.buyer(1, 2), 1);
        for (int n = 0; n <= 9; n++) {
            OneOfEach x = good("shop;buyer purse 5 mind " + n + " odds " + (9 - n) + ";", 2);
            CHECKS.due("mind", x.buyer(0, 1), n);
            CHECKS.due("odds", x.buyer(0, 2), 9 - n);
            CHECKS.due("odds together", x.count(8), 9 - n);
        }
        for (String beyond : new String[] {"10", "010", "99", "100", "999"}) {
            bad("shop;buyer purse 5 mind ", beyond + ";", 3);
            bad("shop;buyer purse 5 odds ", beyond + ";", 3);
        }
        bad("shop;buyer purse 5 mind ", "0009;", 1);
        bad("shop;buyer purse 5 odds ", "0009;", 1);
        bad("shop;buyer purse 5 mind ", ";", 2);
        bad("shop;buyer purse 5 odds ", "mind 1;", 2);
    }

    private static void howManyKinds() {
        CHECKS.about("numbered from 0 on, 8 at most; 4 the first TOKEN of a 9th kind");
        StringBuilder text = new StringBuilder("shop;");
        for (int k = 0; k < 8; k++) {
            text.append("kind price ").append(10 + k).append(" group ").append(9 - k).append(";");
            OneOfEach x = good(text.toString(), k + 2);
            CHECKS.due("kinds", x.count(0), k + 1);
            for (int i = 0; i <= k; i++) {
                CHECKS.due("price of " + i, x.kind(i, 0), 10 + i);
                CHECKS.due("group of " + i, x.kind(i, 1), 9 - i);
            }
            CHECKS.due("the next one", x.kind(k + 1, 0), -2);
        }
        bad(text.toString(), "kind price 1;", 4);
        bad(text.toString(), "kind price 0;", 4);
        bad(text.toString(), "kind;", 4);
        bad(text.toString() + "  ", "kind ?", 4);
        bad(text.toString() + "buyer purse 1;wants : kind + kind;lets : kind = kind;", "kind price 1;", 4);
        good(text.toString() + "wants : kind;", 10);
        bad(text.toString() + "wants : kind ", "kind;", 2);
    }

    private static void howManyBuyers() {
        CHECKS.about("numbered from 0 on, 6 at most; 4 the first TOKEN of a 7th buyer");
        StringBuilder text = new StringBuilder("shop;");
        for (int b = 0; b < 6; b++) {
            text.append("buyer purse ").append(100 + b).append(" mind ").append(b).append(" odds ").append(9 - b).append(";");
            OneOfEach x = good(text.toString(), b + 2);
            CHECKS.due("buyers", x.count(1), b + 1);
            for (int i = 0; i <= b; i++) {
                CHECKS.due("purse of " + i, x.buyer(i, 0), 100 + i);
                CHECKS.due("mind of " + i, x.buyer(i, 1), i);
                CHECKS.due("odds of " + i, x.buyer(i, 2), 9 - i);
            }
            CHECKS.due("the next one", x.buyer(b + 1, 0), -2);
        }
        bad(text.toString(), "buyer purse 1;", 4);
        bad(text.toString(), "buyer;", 4);
        bad(text.toString() + "kind price 1; ", "buyer 1000;", 4);
        String kinds = "kind price 1;".repeat(8);
        OneOfEach x = good("shop;" + kinds + text.substring(5), 15);
        CHECKS.due("kinds", x.count(0), 8);
        CHECKS.due("buyers", x.count(1), 6);
    }

    private static void laterOnesStrike() {
        CHECKS.about("Later ones of a group, mind, odds, of wants, lets strike");
        CHECKS.due("group", good("shop;kind price 5 group 9 group 0 sold group 3;", 2).kind(0, 1), 3);
        OneOfEach x = good("shop;buyer purse 5 mind 9 odds 8 mind 2 odds 0 odds 4;", 2);
        CHECKS.due("mind", x.buyer(0, 1), 2);
        CHECKS.due("odds", x.buyer(0, 2), 4);
        CHECKS.due("odds together", x.count(8), 4);
        OneOfEach y = good("shop;wants : 11;lets : 1 = 2;kind price 5;wants : 22 + 0;lets : 1 = 1;buyer purse 5;wants : 33;"
            + "lets : kind = 1;kind price 5;", 10);
        CHECKS.due("wants", y.wants(0, 0), 33);
        CHECKS.due("lets", y.buyer(0, 3), 2);
        String ahead = "shop;kind price 5;buyer purse 5;";
        CHECKS.due("the last of a hundred", good(ahead + "wants:1;".repeat(100) + "wants:22;", 104).wants(0, 0), 22);
        CHECKS.due("the last of ninety", good(ahead + "lets:1=2;".repeat(89) + "lets:1=1;", 93).buyer(0, 3), 1);
        CHECKS.due("the last of ninety", good(ahead + "lets:1=1;".repeat(89) + "lets:1=2;", 93).buyer(0, 3), 0);
        bad("shop;kind price 5 group 9 group ", "10;", 3);
        bad("shop;wants : 1;wants : ", ";", 2);
    }

    private static void nesting() {
        CHECKS.about("At most six of not [ ( within one another; 4: a seventh of not [ (");
        String six = "((((((";
        String shut = "))))))";
        good("shop;wants : " + six + "1" + shut + ";", 2);
        bad("shop;wants : " + six, "(1" + shut + ");", 4);
        good("shop;lets : " + "not ".repeat(6) + "1 = 1;", 2);
        bad("shop;lets : " + "not ".repeat(6), "not 1 = 1;", 4);
        good("shop;lets : [[[[[[1 = 1]]]]]];", 2);
        bad("shop;lets : [[[[[[", "[1 = 1]]]]]]];", 4);
        good("shop;lets : " + six + "1" + shut + " = " + six + "1" + shut + ";", 2);
        bad("shop;lets : " + six, "(1" + shut + ") = 1;", 4);
        bad("shop;lets : 1 = " + six, "(1" + shut + ");", 4);
        good("shop;lets : not [ not [ ((1)) = ((1)) ] ];", 2);
        bad("shop;lets : not [ not [ ((", "(1))) = 1 ] ];", 4);
        bad("shop;lets : not [ not [ not [ ", "not 1 = 1 ] ] ];", 4);
        bad("shop;lets : not [ not [ not [ ", "[ 1 = 1 ] ] ] ];", 4);
        bad("shop;lets : not [ not [ not [ 1 = ", "(1) ] ] ];", 4);
        CHECKS.about("At most six within one another: what is shut, or beside, isn't within");
        good("shop;wants : " + six + "1" + shut + " + " + six + "1" + shut + " * " + six + "1" + shut + ";", 2);
        good("shop;wants : (((((( 1 ) + (1) ) + (1) ) + (1) ) + (1) ) + (((((1)))))) ;", 2);
        bad("shop;wants : (((((( 1 ) + (1) ) + (1) ) + (1) ) + (1) ) + (((((", "(1))))))) ;", 4);
        good("shop;lets : " + "not ".repeat(6) + "1 = 1 and " + "not ".repeat(6) + "1 = 1 or " + "not ".repeat(6) + "1 = 1;", 2);
        good("shop;lets : [[[[[[1 = 1]]]]]] and [[[[[[1 = 1]]]]]];", 2);
        good("shop;lets : not 1 = 1 and " + six + "1" + shut + " = 1;", 2);
        bad("shop;lets : not (((((", "(1)))))) = 1;", 4);
        bad("shop;lets : not 1 = (((((", "(1))))));", 4);
        good("shop;wants : " + six + "1" + shut + ";lets : [[[[[[1 = 1]]]]]];wants : " + six + "2" + shut + ";", 4);
    }

    private static void bytes() {
        CHECKS.about("TOKENS: words (small letters), N, the signs ; : + - * ( ) [ ] = < >; blanks (10, 32); 1 no TOKEN begins so");
        String signs = ";:+-*()[]=<>";
        for (int c = 0; c < 256; c++) {
            boolean begins = c >= 'a' && c <= 'z' || c >= '0' && c <= '9' || signs.indexOf(c) >= 0;
            if (c == 10 || c == 32) {
                good("shop;" + (char) c + "kind" + (char) c + "price" + (char) c + "5" + (char) c + ";" + (char) c, 2);
            } else {
                bad("shop;", (char) c + ";", begins ? 2 : 1);
            }
            if (c != 10 && c != 32 && !begins) {
                bad("shop;kind price 5", (char) c + ";", 1);
                bad("shop;", "kin" + (char) c + "d price 5;", 2);
            }
        }
    }

    private static void tokens() {
        CHECKS.about("TOKENS, as long as they go on, between them blanks (10, 32)");
        OneOfEach x = good("shop;kind price12sold group3hidden;buyer purse7mind2odds5;wants:2*3+1;lets:not[kind=0]and 1<2;", 5);
        CHECKS.due("price", x.kind(0, 0), 12);
        CHECKS.due("group", x.kind(0, 1), 3);
        CHECKS.due("odds", x.buyer(0, 2), 5);
        CHECKS.due("wants", x.wants(0, 0), 7);
        good("shop\n;\nkind\n\n  price \n 5\n;", 2);
        bad("shop;", "kindprice 5;", 2);
        bad("shop;", "ki nd price 5;", 2);
        bad("shop;kind price 1", "", 2);
        bad("shop;kind price 1 ", "2;", 2);
        bad("shop;kind ", "pricex 5;", 2);
        bad("shop;", "kinds price 5;", 2);
        bad("shop;", "kin price 5;", 2);
        bad("", "shops;", 2);
        bad("", "sho;", 2);
        bad("shop;wants : ", "whos;", 2);
        bad("shop;wants : ", "soldsold;", 2);
        bad("shop;kind price 5 ", "hiddena;", 2);
        bad("shop;kind price 5 ", "hidde;", 2);
        bad("shop;", "a".repeat(800) + ";", 2);
        for (String other : new String[] {"salt", "no", "nott", "xnot", "nots", "an", "ands", "o", "orr", "z"}) {
            bad("shop;lets : ", other + " 1 = 1;", 2);
            bad("shop;lets : 1 = 1 ", other + " 1 = 1;", 2);
        }
        good("shop;lets : not1=1;", 2);
    }

    private static void digits() {
        CHECKS.about("N (1 to 3 digits); 1: 4 digits and more: at their first");
        String[] told = {"0", "00", "000", "7", "07", "007", "10", "010", "99", "100", "999"};
        int[] values = {0, 0, 0, 7, 7, 7, 10, 10, 99, 100, 999};
        for (int i = 0; i < told.length; i++) {
            OneOfEach x = good("shop;kind price 1;buyer purse 1;wants : " + told[i] + ";", 4);
            CHECKS.due("wants : " + told[i], x.wants(0, 0), values[i]);
        }
        for (String many : new String[] {"0000", "0001", "1000", "9999", "12345", "1".repeat(700)}) {
            bad("shop;wants : ", many + ";", 1);
            bad("shop;wants : 5 ", many + ";", 1);
            bad("shop;", many + ";", 1);
        }
        bad("shop;wants : 5 + ", "1234", 1);
        bad("shop;wants : 999 ", "9;", 2);
    }

    private static void firstAlongTheText() {
        CHECKS.about("FAULTS, the first along the text");
        bad("shop;kind price ", "0;kind price 1000;", 3);
        bad("shop;kind price ", "1000;kind price 0;", 1);
        bad("shop;", "salt;kind price ?;", 2);
        bad("shop;wants : ((((((", "(1 + ?", 4);
        bad("shop;wants : 1 ", "1 ?", 2);
        bad("shop;" + "kind price 1;".repeat(7) + "kind price ", "100;kind price 1;", 3);
        bad("shop;" + "kind price 1;".repeat(8), "kind ?", 4);
        bad("", "?shop", 1);
        bad("", "kind ?", 2);
    }

    private static void leastKind() {
        CHECKS.about("FAULTS, of one TOKEN the least kind");
        // 1 and 2: no token begins so where nothing, a word, a number or a sign could stand.
        bad("", "?", 1);
        bad("shop", "?", 1);
        bad("shop;kind ", "?", 1);
        bad("shop;kind price 1 ", "A", 1);
        bad("shop;kind ", "1000", 1);
        bad("shop;buyer purse 1 mind 1 ", "1000", 1);
        // 1 and 3: four digits where three would be out of bounds.
        bad("shop;kind price 1 group ", "1000;", 1);
        // 2 and 3: a number where none can stand, out of each bound.
        bad("shop;kind ", "100;", 2);
        bad("shop;", "999;", 2);
        bad("shop;kind price 1 ", "100;", 2);
        // 2 and 4: the seventh within one another, the ninth kind, the seventh buyer, where it can't stand.
        bad("shop;wants : ((((((", "[1", 2);
        bad("shop;wants : ((((((", "not 1", 2);
        bad("shop;wants : ((((((1 ", "(", 2);
        bad("shop;lets : [[[[[[1 = 1 ", "[", 2);
        bad("shop;lets : [[[[[[1 = 1 ", "not", 2);
        bad("shop;lets : [[[[[[1 = ", "[1", 2);
        bad("shop;" + "kind price 1;".repeat(8) + "buyer ", "kind price 1;", 2);
        bad("shop;" + "kind price 1;".repeat(7) + "kind price 1 ", "kind price 1;", 2);
        bad("shop;" + "buyer purse 1;".repeat(5) + "buyer purse 1 ", "buyer purse 1;", 2);
        bad("shop;" + "buyer purse 1;".repeat(6) + "wants : ", "buyer;", 2);
    }

    private static void theEnd() {
        CHECKS.about("2 it can't stand there (the end: the text's length)");
        bad("", "", 2);
        bad("  \n", "", 2);
        bad("shop", "", 2);
        bad("shop  ", "", 2);
        bad("shop;kind", "", 2);
        bad("shop;kind price", "", 2);
        bad("shop;kind price 5   ", "", 2);
        bad("shop;wants : (1 + 2", "", 2);
        bad("shop;lets : [1 = 1 ", "", 2);
        bad("shop;lets : not ", "", 2);
        CHECKS.about("The first n bytes of THE TAPE are THE SHOP: no byte behind them is read");
        String text = "shop;kind price 1000;";
        int[] faults = {2, 2, 2, 2, 2, 0, 2, 2, 2, 2, 2, 2, 2, 2, 2, 2, 2, 2, 2, 3, 1, 1};
        int[] places = {0, 0, 0, 0, 4, -1, 5, 5, 5, 9, 10, 10, 10, 10, 10, 15, 16, 17, 18, 16, 16, 16};
        for (int n = 0; n < faults.length; n++) {
            OneOfEach x = new OneOfEach();
            Checks.feed(x, text);
            CHECKS.due("shop(" + n + ")", x.shop(n), n == 5 ? 1 : -30 - faults[n]);
            CHECKS.due("its place", x.fault(1), places[n]);
            CHECKS.due("the tape is empty then", x.count(10), 0);
        }
        CHECKS.about("2: shop must be told first, and once");
        bad("", "kind price 1;shop;", 2);
        bad("", ";shop;", 2);
        bad("shop;", "shop;", 2);
        bad("shop;kind price 1;", "shop;", 2);
        bad("shop ", "shop;", 2);
        bad("shop;kind price 1 ", "shop;", 2);
        bad("shop;wants : ", "shop;", 2);
    }

    private static void whereTokensStand() {
        CHECKS.about("FLAG: group N | sold | hidden. MARK: mind N | odds N");
        for (String none : new String[] {"mind 1", "odds 1", "purse 1", "price 1", "gone", "who", "kind", "1", ":"}) {
            bad("shop;kind price 1 ", none + ";", 2);
        }
        for (String none : new String[] {"group 1", "sold", "hidden", "purse 1", "price 1", "buyer", "1", "="}) {
            bad("shop;buyer purse 1 ", none + ";", 2);
        }
        CHECKS.about("LINE: kind | buyer | wants : SUM | lets : TRUTH");
        for (String none : new String[] {"sold;", "hidden;", "price 1;", "purse 1;", "not;", "1;", "(", ":", "gone", "odds 1;"}) {
            bad("shop;", none, 2);
        }
        bad("shop;wants ", "1;", 2);
        bad("shop;lets ", "1 = 1;", 2);
        bad("shop;wants : ", "lets : 1 = 1;", 2);
        CHECKS.about("ATOM: N, ( SUM ), who, purse, mind, kind, price, group, gone, sold");
        for (String atom : new String[] {"0", "(1)", "who", "purse", "mind", "kind", "price", "group", "gone", "sold"}) {
            good("shop;wants : " + atom + ";", 2);
            good("shop;wants : " + atom + " * " + atom + " - " + atom + ";", 2);
            good("shop;lets : " + atom + " < " + atom + ";", 2);
        }
        for (String none : new String[] {"shop", "buyer", "wants", "lets", "hidden", "odds", "or", "and", "not", "x", ")", "]", "[",
            "+", "-", "*", "=", "<", ">", ":", ";"}) {
            bad("shop;wants : ", none + ";", 2);
            bad("shop;wants : 1 * ", none + ";", 2);
            bad("shop;wants : (", none + ";", 2);
            bad("shop;lets : 1 = ", none + ";", 2);
        }
        CHECKS.about("UNIT: not UNIT, [ TRUTH ], or SUM, one of = < >, SUM");
        bad("shop;lets : 1", ";", 2);
        bad("shop;lets : 1 +", ";", 2);
        bad("shop;lets : (1 ", "= 1);", 2);
        bad("shop;lets : 1 = 1 ", "= 1;", 2);
        bad("shop;lets : [1 = 1", ";", 2);
        bad("shop;lets : [1 = 1 ", ");", 2);
        bad("shop;lets : 1 = 1 ", "];", 2);
        bad("shop;lets : [1", "];", 2);
        bad("shop;lets : not ", ";", 2);
        bad("shop;lets : 1 = 1 and ", "or 1 = 1;", 2);
        bad("shop;lets : [1 = 1] ", "= 1;", 2);
        bad("shop;lets : [1 = 1] ", "[1 = 1];", 2);
        bad("shop;wants : (1 ", "];", 2);
        bad("shop;wants : 1 ", "< 1;", 2);
        bad("shop;wants : 1 ", "and 1;", 2);
    }
}
