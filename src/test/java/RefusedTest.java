/** Each refused call, at the first numbers beyond the edge and far beyond: its code, which code goes first, nothing changes. */
public final class RefusedTest {
    private static final Checks CHECKS = new Checks("RefusedTest");
    private static final int MIN = Integer.MIN_VALUE;
    private static final int MAX = Integer.MAX_VALUE;
    private static final Twins OPEN = new Twins(CHECKS, Twins::open);
    private static final Twins SHUT = new Twins(CHECKS, Twins::shut);
    private static final Twins FULL = new Twins(CHECKS, Twins::full);
    private static final Twins BARE = new Twins(CHECKS, Twins::bare);
    private static final Twins[] ALL = {OPEN, SHUT, FULL, BARE};

    private interface ByNumber {
        long on(OneOfEach x, int n);
    }

    /** Refused with each of these numbers. */
    private static void refused(Twins twins, String name, ByNumber call, long code, int... numbers) {
        for (int n : numbers) {
            twins.unchanged(name + " with " + n, x -> call.on(x, n), code);
        }
    }

    private static void refusedByAll(String name, ByNumber call, long code, int... numbers) {
        for (Twins twins : ALL) {
            refused(twins, name, call, code, numbers);
        }
    }

    private static Twins withTray(long... numbers) {
        return new Twins(CHECKS, () -> {
            OneOfEach x = Twins.open();
            Checks.tray(x, 0, numbers);
            return x;
        });
    }

    public static void main(String[] args) {
        theShop();
        deedsOfOpen();
        deedsOfShut();
        deedsOfFullAndBare();
        daysAndUndo();
        toldDeeds();
        seasons();
        howItEnds();
        chances();
        whatToHideAndTheTill();
        sights();
        goings();
        traysAndImages();
        questionsChangeNothing();
        CHECKS.end();
    }

    private static void theShop() {
        CHECKS.about("2: -5: it would have more than 900");
        Twins fed = new Twins(CHECKS, () -> {
            OneOfEach x = Twins.open();
            for (int i = 0; i < 42; i++) {
                x.feed(0x20202020, 0x20202020, 0x20202020, 0x20202020, 0x20202020);
            }
            return x;
        });
        CHECKS.due("bytes", feeds(45).count(10), 900);
        fed.unchanged("feed", x -> x.feed(0x73686f70, 1, 2, 3, 4), -5);
        CHECKS.about("3: -3: n is below 0 or above what there is (THE TAPE stays)");
        refusedByAll("shop", (x, n) -> x.shop(n), -3, -1, 61, 62, 900, 901, MIN, MAX);
        CHECKS.due("shop(1), nothing there", new OneOfEach().shop(1), -3);
        CHECKS.about("3: all stays with a FAULT; THE TAPE is empty then");
        int[] cuts = {0, 3, 4, 12, 17, 18, 49};
        for (Twins twins : ALL) {
            for (int n : cuts) {
                twins.unchangedBut("the tape, the fault", "shop(" + n + ")", x -> x.shop(n));
            }
        }
        for (int n : cuts) {
            OneOfEach x = Twins.open();
            CHECKS.due("shop(" + n + ")", x.shop(n), -32);
            CHECKS.due("bytes behind it", x.count(10), 0);
            CHECKS.due("its fault", x.fault(0), 2);
        }
        CHECKS.about("4: NONE for others");
        refusedByAll("fault", (x, n) -> x.fault(n), -1, -1, 2, MIN, MAX);
        CHECKS.about("5: -2");
        refused(OPEN, "kind(n, 0)", (x, n) -> x.kind(n, 0), -2, -1, 5, 8, MIN, MAX);
        refused(OPEN, "kind(n, 4)", (x, n) -> x.kind(n, 4), -2, -1, 5, 32);
        refused(OPEN, "kind(0, n)", (x, n) -> x.kind(0, n), -2, -1, 5, MIN, MAX);
        refused(OPEN, "kind(5, n)", (x, n) -> x.kind(5, n), -2, -1, 5);
        refused(FULL, "kind(n, 0)", (x, n) -> x.kind(n, 0), -2, -1, 8, 9);
        refused(BARE, "kind(n, 0)", (x, n) -> x.kind(n, 0), -2, -1, 0);
        CHECKS.about("6: -2");
        refused(OPEN, "buyer(n, 0)", (x, n) -> x.buyer(n, 0), -2, -1, 3, 6, MIN, MAX);
        refused(OPEN, "buyer(n, 4)", (x, n) -> x.buyer(n, 4), -2, -1, 3, 32);
        refused(OPEN, "buyer(0, n)", (x, n) -> x.buyer(0, n), -2, -1, 5, MIN, MAX);
        refused(BARE, "buyer(n, 0)", (x, n) -> x.buyer(n, 0), -2, -1, 0);
        CHECKS.about("7: -99000002");
        refused(OPEN, "wants(n, 0)", (x, n) -> x.wants(n, 0), -99000002, -1, 3, MIN, MAX);
        refused(OPEN, "wants(0, n)", (x, n) -> x.wants(0, n), -99000002, -1, 5, MIN, MAX);
        refused(BARE, "wants(n, n)", (x, n) -> x.wants(n, n), -99000002, -1, 0);
    }

    private static OneOfEach feeds(int times) {
        OneOfEach x = new OneOfEach();
        for (int i = 0; i < times; i++) {
            x.feed(1, 2, 3, 4, 5);
        }
        return x;
    }

    // ---- deeds

    private static void deedsOfOpen() {
        CHECKS.about("Why not: 1 no such BUYER, KIND, PRICE, group");
        refused(OPEN, "visit", (x, n) -> x.visit(n), -11, -1, 3, 6, 10, MIN, MAX);
        refused(OPEN, "gift", (x, n) -> x.gift(n), -11, -1, 5, 8, 32, MIN, MAX);
        refused(OPEN, "hide", (x, n) -> x.hide(n), -11, -1, 5, 8, 32, MIN, MAX);
        refused(OPEN, "add(n, 0)", (x, n) -> x.add(n, 0), -11, 0, -1, 100, MIN, MAX);
        refused(OPEN, "add(1, n)", (x, n) -> x.add(1, n), -11, -1, 10, MIN, MAX);
        refused(OPEN, "price(n, 1)", (x, n) -> x.price(n, 1), -11, -1, 5, 8, MIN, MAX);
        refused(OPEN, "price(0, n)", (x, n) -> x.price(0, n), -11, 0, -1, 100, MIN, MAX);
        CHECKS.about("Why not: 3 it buys nothing (a VISIT)");
        refused(OPEN, "visit", (x, n) -> x.visit(n), -13, 0, 2);
    }

    private static void deedsOfShut() {
        CHECKS.about("Why not: 2 the shop is SHUT; 1 goes first");
        refused(SHUT, "visit", (x, n) -> x.visit(n), -12, 0, 1, 2);
        refused(SHUT, "visit", (x, n) -> x.visit(n), -11, -1, 3);
        refused(SHUT, "gift", (x, n) -> x.gift(n), -12, 0, 3);
        refused(SHUT, "gift", (x, n) -> x.gift(n), -11, -1, 4);
        refused(SHUT, "hide", (x, n) -> x.hide(n), -12, 0, 1, 2, 3);
        refused(SHUT, "hide", (x, n) -> x.hide(n), -11, -1, 4);
        refused(SHUT, "add(n, 9)", (x, n) -> x.add(n, 9), -12, 1, 99);
        refused(SHUT, "add(n, 9)", (x, n) -> x.add(n, 9), -11, 0, 100);
        refused(SHUT, "add(1, n)", (x, n) -> x.add(1, n), -11, -1, 10);
        refused(SHUT, "price(n, 5)", (x, n) -> x.price(n, 5), -12, 0, 3);
        refused(SHUT, "price(n, 5)", (x, n) -> x.price(n, 5), -11, -1, 4);
        refused(SHUT, "price(0, n)", (x, n) -> x.price(0, n), -12, 1, 99);
        refused(SHUT, "price(0, n)", (x, n) -> x.price(0, n), -11, 0, 100);
    }

    private static void deedsOfFullAndBare() {
        CHECKS.about("Why not: 3 there are 8 KINDS (to ADD); 1 and 2 go first");
        refused(FULL, "add(n, 9)", (x, n) -> x.add(n, 9), -13, 1, 99);
        refused(FULL, "add(n, 9)", (x, n) -> x.add(n, 9), -11, 0, 100);
        refused(FULL, "add(1, n)", (x, n) -> x.add(1, n), -11, -1, 10);
        Twins fullAndShut = new Twins(CHECKS, () -> Checks.shop("shop;" + "kind price 1 sold;".repeat(8)));
        fullAndShut.unchanged("add(1, 0)", x -> x.add(1, 0), -12);
        fullAndShut.unchanged("add(1, 10)", x -> x.add(1, 10), -11);
        refused(FULL, "gift", (x, n) -> x.gift(n), -11, -1, 8, 9);
        refused(FULL, "hide", (x, n) -> x.hide(n), -11, -1, 8, 9);
        refused(FULL, "price(n, 1)", (x, n) -> x.price(n, 1), -11, -1, 8, 9);
        CHECKS.about("Why not, without a shop: 1, and 2 for an ADD");
        refused(BARE, "visit", (x, n) -> x.visit(n), -11, 0, -1);
        refused(BARE, "gift", (x, n) -> x.gift(n), -11, 0, -1);
        refused(BARE, "hide", (x, n) -> x.hide(n), -11, 0, -1);
        refused(BARE, "price(n, 1)", (x, n) -> x.price(n, 1), -11, 0, -1);
        refused(BARE, "add(n, 0)", (x, n) -> x.add(n, 0), -12, 1, 99);
        refused(BARE, "add(n, 0)", (x, n) -> x.add(n, 0), -11, 0, 100);
    }

    private static void daysAndUndo() {
        CHECKS.about("14: n DAYS (1 to 99). -3");
        refusedByAll("days", (x, n) -> x.days(n), -3, 0, -1, 100, MIN, MAX);
        CHECKS.about("15: n calls (1 to 10). -3: n, more than can be");
        refusedByAll("undo", (x, n) -> x.undo(n), -3, 0, -1, 11, 12, MIN, MAX);
        refused(SHUT, "undo, three can be", (x, n) -> x.undo(n), -3, 4, 10);
        refused(FULL, "undo, six can be", (x, n) -> x.undo(n), -3, 7, 10);
        refused(BARE, "undo, none can be", (x, n) -> x.undo(n), -3, 1, 10);
    }

    private static void toldDeeds() {
        CHECKS.about("16: -2: the TRAY, what; -6");
        refusedByAll("judge(n, 0)", (x, n) -> x.judge(n, 0), -2, -1, 4, MIN, MAX);
        refusedByAll("judge(0, n)", (x, n) -> x.judge(0, n), -2, -1, 4, MIN, MAX);
        refusedByAll("judge(3, n), missing", (x, n) -> x.judge(3, n), -6, 0, 1, 2, 3);
        refusedByAll("judge(3, n), missing", (x, n) -> x.judge(3, n), -2, -1, 4);
        CHECKS.about("17: -2; -6");
        refusedByAll("perform", (x, n) -> x.perform(n), -2, -1, 4, MIN, MAX);
        refusedByAll("perform, missing", (x, n) -> x.perform(n), -6, 3);
        CHECKS.about("17: None is done: nothing changes");
        refusedByAll("perform, no numbers", (x, n) -> x.perform(n), 0, 1);
        refused(OPEN, "perform, the first can't be", (x, n) -> x.perform(n), 0, 2);
        refused(SHUT, "perform, the first can't be", (x, n) -> x.perform(n), 0, 0, 2);
        refused(BARE, "perform, the first can't be", (x, n) -> x.perform(n), 0, 0, 2);
    }

    private static void seasons() {
        CHECKS.about("18: so many times (1 to 40). -3");
        refusedByAll("season(7, n)", (x, n) -> x.season(7, n), -3, 0, -1, 41, MIN, MAX);
        CHECKS.about("18: 0: nothing changes, x neither");
        int tried = 0;
        for (int seed = 0; seed < 400; seed++) {
            int times = refusedAhead(seed, 3, 5);
            for (int n = 1; n <= times; n++) {
                int seedOf = seed;
                refused(OPEN, "season(" + seed + ", n)", (x, t) -> x.season(seedOf, t), 0, n);
                tried++;
            }
        }
        CHECKS.due("some seasons were so", tried > 20 ? 1 : 0, 1);
    }

    /** How many deeds of a season are told, from the first on, of none such. */
    private static int refusedAhead(int seed, int buyers, int kinds) {
        int x = seed;
        for (int n = 0; n < 40; n++) {
            x = 1103515245 * x + 12345;
            int deed = (x >>> 16) % 5;
            x = 1103515245 * x + 12345;
            int whom = x >>> 16;
            if (deed < 2 || deed == 2 && whom % 6 < buyers || deed > 2 && whom % 8 < kinds) {
                return n;
            }
        }
        return 40;
    }

    // ---- questions

    private static void howItEnds() {
        CHECKS.about("20: -3: i is below 0");
        refusedByAll("endingBy", (x, n) -> x.endingBy(n), -3, -1, -2, MIN);
        CHECKS.about("20: NONE: not so many, there are none");
        refused(OPEN, "endingBy", (x, n) -> x.endingBy(n), -1, 1, 2, 8, 9, MAX);
        refused(FULL, "endingBy, there are none", (x, n) -> x.endingBy(n), -1, 0, 1, MAX);
        refused(SHUT, "endingBy, it is shut", (x, n) -> x.endingBy(n), -1, 0, MAX);
        CHECKS.about("21: n VISITS (0 to 15). -3");
        refusedByAll("endings", (x, n) -> x.endings(n), -3, -1, 16, MIN, MAX);
    }

    private static void chances() {
        CHECKS.about("26: n DAYS (0 to 10). -2: what; -3");
        refusedByAll("open(n, 0)", (x, n) -> x.open(n, 0), -3, -1, 11, MIN, MAX);
        refusedByAll("open(0, n)", (x, n) -> x.open(0, n), -2, -1, 2, MIN, MAX);
        refusedByAll("open(11, n)", (x, n) -> x.open(11, n), -2, -1, 2);
        CHECKS.about("27: m in 100 (0 to 100). -3");
        refusedByAll("likely", (x, n) -> x.likely(n), -3, -1, 101, MIN, MAX);
        CHECKS.about("28: -2: the BUYER, what; -3");
        refused(OPEN, "shutsBy(n, 1, 0)", (x, n) -> x.shutsBy(n, 1, 0), -2, -1, 3, MIN, MAX);
        refused(BARE, "shutsBy(n, 1, 0)", (x, n) -> x.shutsBy(n, 1, 0), -2, -1, 0);
        refused(OPEN, "shutsBy(0, 1, n)", (x, n) -> x.shutsBy(0, 1, n), -2, -1, 2, MIN, MAX);
        refused(OPEN, "shutsBy(0, n, 0)", (x, n) -> x.shutsBy(0, n, 0), -3, -1, 11, MIN, MAX);
        refused(OPEN, "shutsBy(n, 11, 0)", (x, n) -> x.shutsBy(n, 11, 0), -2, -1, 3);
        refused(OPEN, "shutsBy(0, -1, n)", (x, n) -> x.shutsBy(0, -1, n), -2, -1, 2);
        CHECKS.about("29: n DAYS (0 to 10). -3");
        refusedByAll("closer", (x, n) -> x.closer(n), -3, -1, 11, MIN, MAX);
        CHECKS.about("30: -2: the KIND, what; -3");
        refused(OPEN, "soldIn(n, 1, 0)", (x, n) -> x.soldIn(n, 1, 0), -2, -1, 5, MIN, MAX);
        refused(BARE, "soldIn(n, 1, 0)", (x, n) -> x.soldIn(n, 1, 0), -2, -1, 0);
        refused(OPEN, "soldIn(0, 1, n)", (x, n) -> x.soldIn(0, 1, n), -2, -1, 2, MIN, MAX);
        refused(OPEN, "soldIn(0, n, 0)", (x, n) -> x.soldIn(0, n, 0), -3, -1, 11, MIN, MAX);
        refused(OPEN, "soldIn(n, 11, 0)", (x, n) -> x.soldIn(n, 11, 0), -2, -1, 5);
        refused(OPEN, "soldIn(0, -1, n)", (x, n) -> x.soldIn(0, -1, n), -2, -1, 2);
    }

    private static void whatToHideAndTheTill() {
        CHECKS.about("31: m KINDS at most (0 to 3), n DAYS (1 to 6). -2: what; -3: m, n; -5: it is SHUT");
        refusedByAll("hides(1, 1, n)", (x, n) -> x.hides(1, 1, n), -2, -1, 2, MIN, MAX);
        refusedByAll("hides(n, 1, 0)", (x, n) -> x.hides(n, 1, 0), -3, -1, 4, MIN, MAX);
        refusedByAll("hides(1, n, 0)", (x, n) -> x.hides(1, n, 0), -3, 0, -1, 7, MIN, MAX);
        refusedByAll("hides(4, 1, n)", (x, n) -> x.hides(4, 1, n), -2, -1, 2);
        refusedByAll("hides(1, 7, n)", (x, n) -> x.hides(1, 7, n), -2, -1, 2);
        refused(SHUT, "hides(n, 1, 0)", (x, n) -> x.hides(n, 1, 0), -5, 0, 3);
        refused(SHUT, "hides(0, n, 1)", (x, n) -> x.hides(0, n, 1), -5, 1, 6);
        refused(BARE, "hides(n, 6, 1)", (x, n) -> x.hides(n, 6, 1), -5, 0, 3);
        CHECKS.about("32: -2: what; -5: it is SHUT; both ahead of NONE");
        refusedByAll("rota", (x, n) -> x.rota(n), -2, -1, 2, MIN, MAX);
        refused(SHUT, "rota", (x, n) -> x.rota(n), -5, 0, 1);
        refused(BARE, "rota", (x, n) -> x.rota(n), -5, 0, 1);
        CHECKS.about("33: n DAYS (0 to 8). -2: what; -3");
        refusedByAll("earns(n, 0)", (x, n) -> x.earns(n, 0), -3, -1, 9, 10, MIN, MAX);
        refusedByAll("earns(0, n)", (x, n) -> x.earns(0, n), -2, -1, 2, MIN, MAX);
        refusedByAll("earns(9, n)", (x, n) -> x.earns(9, n), -2, -1, 2);
        CHECKS.about("34: n DAYS (1 to 4). -2; -3; -5: it is SHUT");
        refused(OPEN, "bestPrice(n, 1)", (x, n) -> x.bestPrice(n, 1), -2, -1, 5, MIN, MAX);
        refused(OPEN, "bestPrice(n, 5)", (x, n) -> x.bestPrice(n, 5), -2, -1, 5);
        refused(OPEN, "bestPrice(0, n)", (x, n) -> x.bestPrice(0, n), -3, 0, -1, 5, MIN, MAX);
        refused(SHUT, "bestPrice(n, 1)", (x, n) -> x.bestPrice(n, 1), -5, 0, 3);
        refused(SHUT, "bestPrice(0, n)", (x, n) -> x.bestPrice(0, n), -5, 1, 4);
        refused(SHUT, "bestPrice(0, n)", (x, n) -> x.bestPrice(0, n), -3, 0, 5);
        refused(SHUT, "bestPrice(n, 0)", (x, n) -> x.bestPrice(n, 0), -2, -1, 4);
        refused(BARE, "bestPrice(n, 1)", (x, n) -> x.bestPrice(n, 1), -2, -1, 0);
    }

    // ---- what was gone, who came

    private static void asked(Twins twins, int tray, long code) {
        refused(twins, "seen", (x, n) -> x.seen(n), code, tray);
        refused(twins, "sureGone", (x, n) -> x.sureGone(n), code, tray);
        refused(twins, "ask", (x, n) -> x.ask(n), code, tray);
    }

    private static void sights() {
        for (Twins twins : ALL) {
            CHECKS.about("35 to 37: -2: the TRAY");
            asked(twins, -1, -2);
            asked(twins, 4, -2);
            asked(twins, MIN, -2);
            asked(twins, MAX, -2);
            CHECKS.about("35 to 37: -6");
            asked(twins, 3, -6);
            CHECKS.about("35 to 37: -4: not 1 to 12 numbers");
            asked(twins, 1, -4);
            asked(twins, 2, -4);
        }
        asked(withTray(new long[40]), 0, -4);
        asked(withTray(0, 0, 0, 0, 0, 0, 0, 0, 0, 0, 0, 0, 99), 0, -4);
        CHECKS.about("35 to 37: -3: one is none such (10 times a BUYER, and the KIND it bought; 9: nothing)");
        for (long none : new long[] {5, 6, 7, 8, 15, 18, 25, 28, 30, 34, 39, 90, 99, 100, 127, -1, -9, -10, MIN, MAX, 1L << 32,
            (1L << 32) + 9, 10L << 32, Long.MIN_VALUE, Long.MAX_VALUE, -(1L << 32)}) {
            asked(withTray(none), 0, -3);
        }
        asked(withTray(9, 9, 9, 9, 9, 9, 9, 9, 9, 9, 9, 5), 0, -3);
        asked(withTray(5, 9), 0, -3);
        CHECKS.about("37: -3 ahead of NONE: there are no BUYERS");
        asked(BARE, 0, -3);
    }

    private static void wentBy(Twins twins, int tray, long code) {
        refused(twins, "came", (x, n) -> x.came(n), code, tray);
        refused(twins, "who(n, 0)", (x, n) -> x.who(n, 0), code, tray);
        refused(twins, "who(n, -1), the code of came() goes first", (x, n) -> x.who(n, -1), code, tray);
    }

    private static void goings() {
        for (Twins twins : ALL) {
            CHECKS.about("38, 39: -2: the TRAY");
            wentBy(twins, -1, -2);
            wentBy(twins, 4, -2);
            wentBy(twins, MIN, -2);
            wentBy(twins, MAX, -2);
            CHECKS.about("38, 39: -6");
            wentBy(twins, 3, -6);
            CHECKS.about("38, 39: -4: not 1 to 10 numbers");
            wentBy(twins, 1, -4);
            wentBy(twins, 2, -4);
        }
        wentBy(withTray(new long[11]), 0, -4);
        wentBy(withTray(new long[40]), 0, -4);
        wentBy(withTray(0, 0, 0, 0, 0, 0, 0, 0, 0, 0, 5), 0, -4);
        CHECKS.about("38, 39: -3: one is no KIND, nor NONE");
        for (long none : new long[] {5, 6, 8, 9, 10, -2, -3, MIN, MAX, 1L << 32, (1L << 32) - 1, Long.MIN_VALUE, Long.MAX_VALUE}) {
            wentBy(withTray(none), 0, -3);
        }
        wentBy(withTray(-1, -1, -1, -1, -1, -1, -1, -1, -1, 5), 0, -3);
        wentBy(withTray(-2, 0), 0, -3);
        wentBy(BARE, 0, -3);
        CHECKS.about("39: -7: no such place");
        refused(OPEN, "who(0, n)", (x, n) -> x.who(0, n), -7, -1, 2, 3, 10, MIN, MAX);
        refused(withTray(new long[10]), "who(0, n)", (x, n) -> x.who(0, n), -7, -1, 10, 11);
    }

    // ---- trays, images

    private static void traysAndImages() {
        CHECKS.about("40: -2: no such TRAY, sort; -3, and the TRAY stays: n is below 0 or above 40");
        refusedByAll("numbers(n, 0, 1)", (x, n) -> x.numbers(n, 0, 1), -2, -1, 4, MIN, MAX);
        refusedByAll("numbers(0, n, 1)", (x, n) -> x.numbers(0, n, 1), -2, -1, 4, MIN, MAX);
        refusedByAll("numbers(0, 0, n)", (x, n) -> x.numbers(0, 0, n), -3, -1, 41, MIN, MAX);
        refusedByAll("numbers(3, 0, n), missing", (x, n) -> x.numbers(3, 0, n), -3, -1, 41);
        refusedByAll("numbers(n, 0, 41)", (x, n) -> x.numbers(n, 0, 41), -2, -1, 4);
        refusedByAll("numbers(0, n, -1)", (x, n) -> x.numbers(0, n, -1), -2, -1, 4);
        CHECKS.about("41: -2: no such TRAY; -6; -7");
        refusedByAll("write(n, 0, 5)", (x, n) -> x.write(n, 0, 5), -2, -1, 4, MIN, MAX);
        refusedByAll("write(n, -1, 5)", (x, n) -> x.write(n, -1, 5), -2, -1, 4);
        refusedByAll("write(3, n, 5), missing", (x, n) -> x.write(3, n, 5), -6, -1, 0, 40);
        refusedByAll("write(0, n, 5)", (x, n) -> x.write(0, n, 5), -7, -1, 2, 40, MIN, MAX);
        refusedByAll("write(1, n, 5), no numbers", (x, n) -> x.write(1, n, 5), -7, -1, 0);
        refusedByAll("write(2, n, 5)", (x, n) -> x.write(2, n, 5), -7, 13, 39);
        CHECKS.about("42: -2: the TRAY; -6; -5: there is none");
        refusedByAll("lists", (x, n) -> x.lists(n), -2, -1, 4, MIN, MAX);
        refusedByAll("lists, missing", (x, n) -> x.lists(n), -6, 3);
        refused(FULL, "lists", (x, n) -> x.lists(n), -5, 0, 1, 2);
        CHECKS.about("43: -2");
        refusedByAll("image", (x, n) -> x.image(n), -2, -1, 2, MIN, MAX);
        CHECKS.about("44: -2; -5: none was made");
        refusedByAll("restore", (x, n) -> x.restore(n), -2, -1, 2, MIN, MAX);
        refusedByAll("restore, not made", (x, n) -> x.restore(n), -5, 1);
        refused(BARE, "restore, not made", (x, n) -> x.restore(n), -5, 0);
        CHECKS.about("45: NONE for others");
        refusedByAll("count", (x, n) -> x.count(n), -1, -1, 12, MIN, MAX);
    }

    private static void questionsChangeNothing() {
        CHECKS.about("A question changes nothing");
        for (Twins twins : ALL) {
            twins.unchanged("kind", x -> x.kind(0, 4));
            twins.unchanged("buyer", x -> x.buyer(1, 3) + x.buyer(1, 4));
            twins.unchanged("wants", x -> x.wants(1, 1));
            twins.unchanged("judge", x -> x.judge(0, 0) + x.judge(0, 1) + x.judge(0, 2) + x.judge(0, 3));
            twins.unchanged("ending", x -> x.ending() + x.endingBy(0) + x.endings(15));
            twins.unchanged("needed", x -> x.needed() + x.sellable() + x.guards() + x.last());
            twins.unchanged("open", x -> x.open(10, 0) + x.likely(100) + x.closer(10));
            twins.unchanged("shutsBy", x -> x.shutsBy(1, 10, 1) + x.soldIn(1, 10, 1));
            twins.unchanged("hides", x -> x.hides(3, 6, 1) + x.rota(1));
            twins.unchanged("earns", x -> x.earns(8, 0) + x.bestPrice(1, 4));
            twins.unchanged("seen", x -> x.seen(0) + x.sureGone(0) + x.ask(0));
            twins.unchanged("came", x -> x.came(0) + x.who(0, 1));
            twins.unchanged("count", x -> x.count(4) + x.count(8));
            twins.unchangedBut("images", "image", x -> x.image(1));
            twins.unchangedBut("trays, sorts and lengths of trays", "lists", x -> x.lists(2));
            twins.unchangedBut("trays, sorts and lengths of trays", "numbers", x -> x.numbers(0, 3, 40));
            twins.unchangedBut("trays", "write", x -> x.write(0, 1, 77));
            twins.unchangedBut("the tape", "feed", x -> x.feed(1, 2, 3, 4, 5));
        }
    }
}
