import java.util.Arrays;

/**
 * A shop that shuts when it has sold one of each. The document's numbered promises are the public methods;
 * every row that a call needs is made once, with the object, and used again.
 */
public final class OneOfEach {
    public static final int NONE = -1;

    private static final int NO_SUCH = -2;
    private static final int BAD_NUMBER = -3;
    private static final int TOO_MANY = -4;
    private static final int NOT_NOW = -5;
    private static final int MISSING = -6;
    private static final int NO_PLACE = -7;
    private static final int WHY_NOT = -10;
    private static final int NO_SUCH_DEED = WHY_NOT - 1;
    private static final int SHUT_NOW = WHY_NOT - 2;
    private static final int CANNOT = WHY_NOT - 3;
    private static final int TEXT_FAULT = -30;
    private static final int NO_WANT = -99000002;

    private static final int MOST_BYTES = 900;
    private static final int FEED_BYTES = 20;
    private static final int MOST_KINDS = 8;
    private static final int MOST_BUYERS = 6;
    private static final int MOST_NESTED = 6;
    private static final int SETS = 1 << MOST_KINDS;
    private static final int MOST_PRICE = 99;
    private static final int MOST_PURSE = 999;
    private static final int MOST_DIGIT = 9;
    private static final int MOST_UNDONE = 10;
    private static final int MOST_DAYS = 99;
    private static final int MOST_TIMES = 40;
    private static final int MOST_ROW = 15;
    private static final int MOST_CHANCE_DAYS = 10;
    private static final int MOST_HIDE_DAYS = 6;
    private static final int MOST_HIDES = 3;
    private static final int MOST_EARN_DAYS = 8;
    private static final int MOST_PRICE_DAYS = 4;
    private static final int MOST_SEEN = 12;
    private static final int MOST_GONE = 10;
    private static final int NOTHING = 9;
    private static final int TRAYS = 4;
    private static final int MOST_NUMBERS = 40;
    private static final int IMAGES = 2;

    private final int[] tape = new int[MOST_BYTES];
    private int tapeSize = 0;
    private int faultKind = 0;
    private int faultPlace = NONE;
    private Plan plan = new Plan();
    private Plan spare = new Plan();
    private final Stock stock = new Stock();
    private final Stock trial = new Stock();
    private final Past past = new Past();
    private final Tray[] trays = new Tray[TRAYS];
    private final Image[] images = new Image[IMAGES];
    private final Reader reader = new Reader(spare, trial);
    private final Minds minds = new Minds(plan);
    private final Hands hands = new Hands(minds);
    private final Outlook outlook = new Outlook(minds, plan, stock);
    private final Clues clues = new Clues(outlook);

    public OneOfEach() {
        for (int i = 0; i < trays.length; i++) {
            trays[i] = new Tray();
        }
        for (int i = 0; i < images.length; i++) {
            images[i] = new Image();
        }
    }

    // ---- the shop

    public int feed(int a, int b, int c, int d, int e) {
        if (tapeSize + FEED_BYTES > MOST_BYTES) {
            return NOT_NOW;
        }
        putBytes(a);
        putBytes(b);
        putBytes(c);
        putBytes(d);
        putBytes(e);
        return tapeSize;
    }

    private void putBytes(int four) {
        for (int shift = 24; shift >= 0 && tapeSize < tape.length; shift -= 8) {
            tape[tapeSize] = four >>> shift & 255;
            tapeSize++;
        }
    }

    public int shop(int n) {
        if (n < 0 || n > tapeSize) {
            return BAD_NUMBER;
        }
        reader.read(tape, n, spare, trial);
        tapeSize = 0;
        faultKind = reader.fault;
        faultPlace = reader.faultPlace;
        if (faultKind != 0) {
            return TEXT_FAULT - faultKind;
        }
        Plan old = plan;
        plan = spare;
        spare = old;
        // The document names till, GIFTS and x as 0 again, and not the DAY: it goes on.
        trial.day = stock.day;
        stock.copyFrom(trial);
        beginAnew();
        return plan.lines;
    }

    private void beginAnew() {
        past.clear();
        minds.forget();
    }

    public int fault(int what) {
        if (what == 0) {
            return faultKind;
        }
        return what == 1 ? faultPlace : NONE;
    }

    public int kind(int k, int what) {
        if (!isKind(k)) {
            return NO_SUCH;
        }
        switch (what) {
            case 0:
                return stock.price[k];
            case 1:
                return stock.group[k];
            case 2:
                return stock.sold >> k & 1;
            case 3:
                return stock.hidden >> k & 1;
            case 4:
                return takersOf(k);
            default:
                return NO_SUCH;
        }
    }

    private boolean isKind(int k) {
        return k >= 0 && k < stock.kinds;
    }

    private boolean isBuyer(int b) {
        return b >= 0 && b < plan.buyers;
    }

    private int takersOf(int k) {
        minds.tune(plan, stock);
        int takers = 0;
        for (int b = 0; b < plan.buyers; b++) {
            if (minds.choice(b, stock.sold, stock.hidden) == k) {
                takers |= 1 << b;
            }
        }
        return takers;
    }

    public int buyer(int b, int what) {
        if (!isBuyer(b)) {
            return NO_SUCH;
        }
        minds.tune(plan, stock);
        switch (what) {
            case 0:
                return plan.purse[b];
            case 1:
                return plan.mind[b];
            case 2:
                return plan.odds[b];
            case 3:
                return minds.allowed(b, stock.sold, stock.hidden);
            case 4:
                return minds.choice(b, stock.sold, stock.hidden);
            default:
                return NO_SUCH;
        }
    }

    public int wants(int b, int k) {
        if (!isBuyer(b) || !isKind(k)) {
            return NO_WANT;
        }
        minds.tune(plan, stock);
        return minds.wish(b, k, stock.sold);
    }

    // ---- deeds

    public int seed(int n) {
        past.keep(stock);
        int old = stock.x;
        stock.x = n;
        return old;
    }

    public int visit(int b) {
        trial.copyFrom(stock);
        return settle(hands.visitBy(plan, stock, b));
    }

    public int gift(int k) {
        trial.copyFrom(stock);
        return settle(hands.giveAway(stock, k));
    }

    public int hide(int k) {
        trial.copyFrom(stock);
        return settle(hands.turn(stock, k));
    }

    public int add(int price, int group) {
        trial.copyFrom(stock);
        return settle(hands.bringIn(stock, price, group));
    }

    public int price(int k, int n) {
        trial.copyFrom(stock);
        return settle(hands.reprice(stock, k, n));
    }

    /** Keeps what was ahead of a deed, if the deed was done. */
    private int settle(int answer) {
        if (answer >= 0) {
            past.keep(trial);
        }
        return answer;
    }

    public int days(int n) {
        if (n < 1 || n > MOST_DAYS) {
            return BAD_NUMBER;
        }
        trial.copyFrom(stock);
        int bought = 0;
        for (int i = 0; i < n; i++) {
            bought += hands.carryOut(plan, stock, NONE);
        }
        past.keep(trial);
        return bought;
    }

    public int undo(int n) {
        if (n < 1 || n > past.size) {
            return BAD_NUMBER;
        }
        past.bringBack(n, stock);
        return past.size;
    }

    public int judge(int tray, int what) {
        if (!isTray(tray) || what < 0 || what > 3) {
            return NO_SUCH;
        }
        Tray told = trays[tray];
        if (told.isMissing()) {
            return MISSING;
        }
        trial.copyFrom(stock);
        int refusal = 0;
        int place = 0;
        for (int i = 0; i < told.size() && refusal == 0; i++) {
            refusal = Math.min(0, hands.carryOut(plan, trial, told.numberAt(i)));
            place = i;
        }
        if (what == 0) {
            return refusal == 0 ? NONE : place;
        }
        if (what == 1) {
            return refusal == 0 ? 0 : WHY_NOT - refusal;
        }
        return what == 2 ? trial.sold : trial.till;
    }

    public int perform(int tray) {
        int refusal = trayRefusal(tray);
        if (refusal != 0) {
            return refusal;
        }
        Tray told = trays[tray];
        trial.copyFrom(stock);
        int done = 0;
        for (int i = 0; i < told.size() && done == i; i++) {
            if (hands.carryOut(plan, stock, told.numberAt(i)) >= 0) {
                done++;
            }
        }
        if (done > 0) {
            past.keep(trial);
        }
        return done;
    }

    public int season(int seed, int times) {
        if (times < 1 || times > MOST_TIMES) {
            return BAD_NUMBER;
        }
        trial.copyFrom(stock);
        stock.x = seed;
        int could = 0;
        for (int i = 0; i < times; i++) {
            if (hands.carryOut(plan, stock, hands.drawDeed(stock)) >= 0) {
                could++;
            }
        }
        if (could == 0) {
            stock.copyFrom(trial);
        } else {
            past.keep(trial);
        }
        return could;
    }

    // ---- how it ends

    public int ending() {
        outlook.look(plan, stock, stock.hidden);
        return outlook.shortest();
    }

    public int endingBy(int i) {
        if (i < 0) {
            return BAD_NUMBER;
        }
        outlook.look(plan, stock, stock.hidden);
        return i < outlook.shortest() ? outlook.comerAt(i) : NONE;
    }

    public long endings(int n) {
        if (n < 0 || n > MOST_ROW) {
            return BAD_NUMBER;
        }
        outlook.look(plan, stock, stock.hidden);
        return outlook.rowsToShut(n);
    }

    public int needed() {
        outlook.look(plan, stock, stock.hidden);
        return outlook.neededBuyers();
    }

    public int sellable() {
        outlook.look(plan, stock, stock.hidden);
        return outlook.everSold();
    }

    public int guards() {
        int found = 0;
        outlook.look(plan, stock, stock.hidden);
        if (outlook.shortest() == NONE) {
            return found;
        }
        for (int k = 0; k < stock.kinds; k++) {
            if ((stock.hidden >> k & 1) == 0) {
                outlook.look(plan, stock, stock.hidden | 1 << k);
                found |= outlook.shortest() == NONE ? 1 << k : 0;
            }
        }
        return found;
    }

    public int last() {
        outlook.look(plan, stock, stock.hidden);
        return outlook.lastLeft();
    }

    // ---- chances

    public long open(int n, int what) {
        int refusal = chanceRefusal(what, n, MOST_CHANCE_DAYS);
        if (refusal != 0) {
            return refusal;
        }
        outlook.look(plan, stock, stock.hidden);
        outlook.passDays(n);
        return inLowestTerms(outlook.openWays(), outlook.whole, what);
    }

    public int likely(int m) {
        if (m < 0 || m > 100) {
            return BAD_NUMBER;
        }
        outlook.look(plan, stock, stock.hidden);
        for (int n = 0; n <= MOST_CHANCE_DAYS; n++) {
            outlook.passDays(n);
            if (hundredths(outlook.whole - outlook.openWays(), outlook.whole) >= m) {
                return n;
            }
        }
        return NONE;
    }

    public long shutsBy(int b, int n, int what) {
        int refusal = isBuyer(b) ? chanceRefusal(what, n, MOST_CHANCE_DAYS) : NO_SUCH;
        if (refusal != 0) {
            return refusal;
        }
        outlook.look(plan, stock, stock.hidden);
        outlook.passDays(n);
        return inLowestTerms(outlook.shutWays[b], outlook.whole, what);
    }

    public int closer(int n) {
        if (n < 0 || n > MOST_CHANCE_DAYS) {
            return BAD_NUMBER;
        }
        outlook.look(plan, stock, stock.hidden);
        outlook.passDays(n);
        int likeliest = NONE;
        long most = 0;
        for (int b = 0; b < plan.buyers; b++) {
            if (outlook.shutWays[b] > most) {
                most = outlook.shutWays[b];
                likeliest = b;
            }
        }
        return likeliest;
    }

    public long soldIn(int k, int n, int what) {
        int refusal = isKind(k) ? chanceRefusal(what, n, MOST_CHANCE_DAYS) : NO_SUCH;
        if (refusal != 0) {
            return refusal;
        }
        outlook.look(plan, stock, stock.hidden);
        outlook.passDays(n);
        return inLowestTerms(outlook.soldWays(k), outlook.whole, what);
    }

    private static int chanceRefusal(int what, int n, int mostDays) {
        if (what < 0 || what > 1) {
            return NO_SUCH;
        }
        return n < 0 || n > mostDays ? BAD_NUMBER : 0;
    }

    private static long inLowestTerms(long above, long below, int what) {
        long common = commonDivisor(above, below);
        long term = what == 0 ? above : below;
        return common > 0 ? term / common : term;
    }

    private static long commonDivisor(long a, long b) {
        long greater = a;
        long less = b;
        // Two steps halve a long at least, so that it ends far ahead of 200.
        for (int i = 0; i < 200 && less != 0; i++) {
            long rest = greater % less;
            greater = less;
            less = rest;
        }
        return greater;
    }

    /** How many whole hundredths a part is; digit by digit, as a hundred times 54 ^ 10 is more than a long holds. */
    private static long hundredths(long part, long whole) {
        if (whole <= 0) {
            return 0;
        }
        long tenths = part * 10 / whole;
        long rest = part * 10 % whole;
        return tenths * 10 + rest * 10 / whole;
    }

    // ---- what to hide

    public int hides(int m, int n, int what) {
        if (what < 0 || what > 1) {
            return NO_SUCH;
        }
        if (m < 0 || m > MOST_HIDES || n < 1 || n > MOST_HIDE_DAYS) {
            return BAD_NUMBER;
        }
        if (stock.isShut()) {
            return NOT_NOW;
        }
        int best = 0;
        long most = -1;
        for (int size = 0; size <= m; size++) {
            for (int set = 0; set <= stock.everyKind(); set++) {
                if (isHideable(set, size)) {
                    outlook.look(plan, stock, stock.hidden | set);
                    outlook.passDays(n);
                    long ways = outlook.openWays();
                    best = ways > most ? set : best;
                    most = Math.max(most, ways);
                }
            }
        }
        return what == 0 ? Integer.bitCount(best) : best;
    }

    private boolean isHideable(int set, int size) {
        return Integer.bitCount(set) == size && (set & stock.hidden) == 0;
    }

    public int rota(int what) {
        if (what < 0 || what > 1) {
            return NO_SUCH;
        }
        if (stock.isShut()) {
            return NOT_NOW;
        }
        outlook.look(plan, stock, stock.hidden);
        int takers = outlook.takersNow();
        for (int size = 0; size <= stock.kinds; size++) {
            for (int set = 0; set <= stock.everyKind(); set++) {
                if (isHideable(set, size)) {
                    outlook.look(plan, stock, stock.hidden | set);
                    if ((takers & ~outlook.takersNow()) == 0 && outlook.shortest() == NONE) {
                        return what == 0 ? size : set;
                    }
                }
            }
        }
        return NONE;
    }

    // ---- the till

    public long earns(int n, int what) {
        int refusal = chanceRefusal(what, n, MOST_EARN_DAYS);
        if (refusal != 0) {
            return refusal;
        }
        outlook.look(plan, stock, stock.hidden);
        outlook.passDays(n);
        return inLowestTerms(outlook.taken, outlook.whole, what);
    }

    public int bestPrice(int k, int n) {
        if (!isKind(k)) {
            return NO_SUCH;
        }
        if (n < 1 || n > MOST_PRICE_DAYS) {
            return BAD_NUMBER;
        }
        if (stock.isShut()) {
            return NOT_NOW;
        }
        trial.copyFrom(stock);
        int best = 1;
        long most = -1;
        for (int price = 1; price <= MOST_PRICE; price++) {
            trial.price[k] = price;
            outlook.look(plan, trial, trial.hidden);
            outlook.passDays(n);
            best = outlook.taken > most ? price : best;
            most = Math.max(most, outlook.taken);
        }
        return best;
    }

    // ---- what was gone, who came

    public int seen(int tray) {
        int refusal = seenRefusal(tray);
        if (refusal != 0) {
            return refusal;
        }
        outlook.lookEverywhere(plan, stock);
        clues.gather(trays[tray]);
        return clues.sets;
    }

    public int sureGone(int tray) {
        int refusal = seenRefusal(tray);
        if (refusal != 0) {
            return refusal;
        }
        outlook.lookEverywhere(plan, stock);
        clues.gather(trays[tray]);
        return clues.sets == 0 ? 0 : clues.common;
    }

    public int ask(int tray) {
        int refusal = seenRefusal(tray);
        if (refusal != 0) {
            return refusal;
        }
        outlook.lookEverywhere(plan, stock);
        clues.gather(trays[tray]);
        return clues.sets == 0 ? NONE : clues.mostTelling();
    }

    private int seenRefusal(int tray) {
        int refusal = trayRefusal(tray);
        if (refusal != 0) {
            return refusal;
        }
        Tray told = trays[tray];
        if (told.size() < 1 || told.size() > MOST_SEEN) {
            return TOO_MANY;
        }
        for (int i = 0; i < told.size(); i++) {
            if (!isSight(told.numberAt(i))) {
                return BAD_NUMBER;
            }
        }
        return 0;
    }

    private boolean isSight(long number) {
        long bought = number % 10;
        return number >= 0 && number / 10 < plan.buyers && (bought == NOTHING || bought < stock.kinds);
    }

    public long came(int tray) {
        int refusal = cameRefusal(tray);
        if (refusal != 0) {
            return refusal;
        }
        outlook.look(plan, stock, stock.hidden);
        return clues.rows(trays[tray]);
    }

    public int who(int tray, int place) {
        int refusal = cameRefusal(tray);
        if (refusal != 0) {
            return refusal;
        }
        if (!trays[tray].has(place)) {
            return NO_PLACE;
        }
        outlook.look(plan, stock, stock.hidden);
        return clues.comers(trays[tray], place);
    }

    private int cameRefusal(int tray) {
        int refusal = trayRefusal(tray);
        if (refusal != 0) {
            return refusal;
        }
        Tray told = trays[tray];
        if (told.size() < 1 || told.size() > MOST_GONE) {
            return TOO_MANY;
        }
        for (int i = 0; i < told.size(); i++) {
            if (told.numberAt(i) < NONE || told.numberAt(i) >= stock.kinds) {
                return BAD_NUMBER;
            }
        }
        return 0;
    }

    // ---- trays, images

    private static boolean isTray(int tray) {
        return tray >= 0 && tray < TRAYS;
    }

    private int trayRefusal(int tray) {
        if (!isTray(tray)) {
            return NO_SUCH;
        }
        return trays[tray].isMissing() ? MISSING : 0;
    }

    public int numbers(int tray, int sort, int n) {
        if (!isTray(tray) || sort < 0 || sort > 3) {
            return NO_SUCH;
        }
        if (n < 0 || n > MOST_NUMBERS) {
            return BAD_NUMBER;
        }
        trays[tray].layOut(sort, n);
        return 0;
    }

    public long write(int tray, int i, long v) {
        int refusal = trayRefusal(tray);
        if (refusal != 0) {
            return refusal;
        }
        if (!trays[tray].has(i)) {
            return NO_PLACE;
        }
        trays[tray].put(i, v);
        return trays[tray].numberAt(i);
    }

    public int lists(int tray) {
        int refusal = trayRefusal(tray);
        if (refusal != 0) {
            return refusal;
        }
        outlook.look(plan, stock, stock.hidden);
        int length = outlook.shortest();
        if (length == NONE) {
            return NOT_NOW;
        }
        int placed = Math.min(length, trays[tray].size());
        for (int i = 0; i < placed; i++) {
            trays[tray].put(i, outlook.comerAt(i));
        }
        return placed;
    }

    public int image(int i) {
        if (i < 0 || i >= images.length) {
            return NO_SUCH;
        }
        images[i].made = true;
        images[i].plan.copyFrom(plan);
        images[i].stock.copyFrom(stock);
        return 0;
    }

    public int restore(int i) {
        if (i < 0 || i >= images.length) {
            return NO_SUCH;
        }
        if (!images[i].made) {
            return NOT_NOW;
        }
        plan.copyFrom(images[i].plan);
        stock.copyFrom(images[i].stock);
        beginAnew();
        return 0;
    }

    public int count(int what) {
        switch (what) {
            case 0:
                return stock.kinds;
            case 1:
                return plan.buyers;
            case 2:
                return stock.sold;
            case 3:
                return stock.hidden;
            case 4:
                return stock.isShut() ? 1 : 0;
            case 5:
                return stock.till;
            case 6:
                return stock.gifts;
            case 7:
                return stock.day;
            case 8:
                return plan.together();
            case 9:
                return past.size;
            case 10:
                return tapeSize;
            case 11:
                return plan.lines;
            default:
                return NONE;
        }
    }

    /** What the text tells and no deed changes: the buyers, the laws, how many lines. */
    private static final class Plan {
        int buyers = 0;
        int lines = 0;
        final int[] purse = new int[MOST_BUYERS];
        final int[] mind = new int[MOST_BUYERS];
        final int[] odds = new int[MOST_BUYERS];
        // Both laws, operands ahead of their signs; a law that begins where it ends wasn't told.
        final int[] code = new int[MOST_BYTES];
        int codeSize = 0;
        int wantsFrom = 0;
        int wantsTo = 0;
        int letsFrom = 0;
        int letsTo = 0;

        void clear() {
            buyers = 0;
            lines = 0;
            codeSize = 0;
            wantsFrom = 0;
            wantsTo = 0;
            letsFrom = 0;
            letsTo = 0;
        }

        void copyFrom(Plan other) {
            buyers = other.buyers;
            lines = other.lines;
            codeSize = other.codeSize;
            wantsFrom = other.wantsFrom;
            wantsTo = other.wantsTo;
            letsFrom = other.letsFrom;
            letsTo = other.letsTo;
            for (int b = 0; b < MOST_BUYERS; b++) {
                purse[b] = other.purse[b];
                mind[b] = other.mind[b];
                odds[b] = other.odds[b];
            }
            for (int i = 0; i < codeSize && i < code.length; i++) {
                code[i] = other.code[i];
            }
        }

        int together() {
            int sum = 0;
            for (int b = 0; b < buyers; b++) {
                sum += odds[b];
            }
            return sum;
        }

        /** The first buyer whose odds and those of all ahead are above a draw. */
        int comerFor(int drawn) {
            int sum = 0;
            for (int b = 0; b < buyers; b++) {
                sum += odds[b];
                if (sum > drawn) {
                    return b;
                }
            }
            return NONE;
        }
    }

    /** All that deeds change and a call can bring back by undoing. */
    private static final class Stock {
        int kinds = 0;
        final int[] price = new int[MOST_KINDS];
        final int[] group = new int[MOST_KINDS];
        int sold = 0;
        int hidden = 0;
        int till = 0;
        int gifts = 0;
        int day = 0;
        int x = 0;

        void clear() {
            kinds = 0;
            sold = 0;
            hidden = 0;
            till = 0;
            gifts = 0;
            day = 0;
            x = 0;
        }

        void copyFrom(Stock other) {
            kinds = other.kinds;
            for (int k = 0; k < MOST_KINDS; k++) {
                price[k] = other.price[k];
                group[k] = other.group[k];
            }
            sold = other.sold;
            hidden = other.hidden;
            till = other.till;
            gifts = other.gifts;
            day = other.day;
            x = other.x;
        }

        boolean holds(int k) {
            return k >= 0 && k < kinds;
        }

        int everyKind() {
            return (1 << kinds) - 1;
        }

        boolean isShut() {
            return (everyKind() & ~hidden & ~sold) == 0;
        }

        int draw() {
            x = 1103515245 * x + 12345;
            return x >>> 16;
        }
    }

    /** What was ahead of the latest calls that did something; the eldest are forgotten. */
    private static final class Past {
        private final Stock[] kept = new Stock[MOST_UNDONE];
        private int next = 0;
        int size = 0;

        Past() {
            for (int i = 0; i < kept.length; i++) {
                kept[i] = new Stock();
            }
        }

        void clear() {
            size = 0;
        }

        void keep(Stock stock) {
            kept[next].copyFrom(stock);
            next = (next + 1) % MOST_UNDONE;
            size = Math.min(size + 1, MOST_UNDONE);
        }

        /** n is 1 to size. */
        void bringBack(int n, Stock into) {
            next = Math.floorMod(next - n, MOST_UNDONE);
            size -= n;
            into.copyFrom(kept[next]);
        }
    }

    private static final class Image {
        boolean made = false;
        final Plan plan = new Plan();
        final Stock stock = new Stock();
    }

    private static final class Tray {
        private final long[] cells = new long[MOST_NUMBERS];
        private int sort = 0;
        private int size = NONE;

        boolean isMissing() {
            return size == NONE;
        }

        int size() {
            return Math.max(size, 0);
        }

        boolean has(int i) {
            return i >= 0 && i < size;
        }

        void layOut(int newSort, int newSize) {
            Arrays.fill(cells, 0L);
            sort = newSort;
            size = newSize;
        }

        long numberAt(int i) {
            return has(i) ? cells[i] : 0;
        }

        void put(int i, long v) {
            if (has(i)) {
                cells[i] = cut(v);
            }
        }

        private long cut(long v) {
            switch (sort) {
                case 0:
                    return (byte) v;
                case 1:
                    return (short) v;
                case 2:
                    return (int) v;
                default:
                    return v;
            }
        }
    }

    /** The marks that the text is split into; those of a law are its code, too. */
    private static final class Mark {
        /** A number stands for itself, below this; from here on words, as they stand in WORDS. */
        static final int FIRST_WORD = 1000;
        static final int WHO = FIRST_WORD;
        static final int PURSE = FIRST_WORD + 1;
        static final int MIND = FIRST_WORD + 2;
        static final int KIND = FIRST_WORD + 3;
        static final int PRICE = FIRST_WORD + 4;
        static final int GROUP = FIRST_WORD + 5;
        static final int GONE = FIRST_WORD + 6;
        static final int SOLD = FIRST_WORD + 7;
        static final int FACTS = 8;
        static final int SHOP = FIRST_WORD + 8;
        static final int BUYER = FIRST_WORD + 9;
        static final int WANTS = FIRST_WORD + 10;
        static final int LETS = FIRST_WORD + 11;
        static final int HIDDEN = FIRST_WORD + 12;
        static final int ODDS = FIRST_WORD + 13;
        static final int OR = FIRST_WORD + 14;
        static final int AND = FIRST_WORD + 15;
        static final int NOT = FIRST_WORD + 16;
        static final int WORD_COUNT = 17;
        static final int OTHER_WORD = FIRST_WORD + WORD_COUNT;
        static final int WORD_WIDTH = 7;
        static final String WORDS = "who    purse  mind   kind   price  group  gone   sold   shop   buyer  wants  lets   hidden odds   or     and    not    ";
        static final int FIRST_SIGN = 2000;
        static final int PLUS = FIRST_SIGN + '+';
        static final int MINUS = FIRST_SIGN + '-';
        static final int TIMES = FIRST_SIGN + '*';
        static final int EQUAL = FIRST_SIGN + '=';
        static final int LESS = FIRST_SIGN + '<';
        static final int MORE = FIRST_SIGN + '>';
        static final int SEMICOLON = FIRST_SIGN + ';';
        static final int COLON = FIRST_SIGN + ':';
        static final int OPEN = FIRST_SIGN + '(';
        static final int CLOSE = FIRST_SIGN + ')';
        static final int OPEN_SQUARE = FIRST_SIGN + '[';
        static final int CLOSE_SQUARE = FIRST_SIGN + ']';
        static final String SIGNS = ";:+-*()[]=<>";
        static final int BAD = 3000;
        static final int END = 3001;

        static boolean isSmall(int c) {
            return c >= 'a' && c <= 'z';
        }

        static boolean isDigit(int c) {
            return c >= '0' && c <= '9';
        }

        static boolean isBlank(int c) {
            return c == 10 || c == 32;
        }

        static int endOf(int[] text, int from, int n) {
            int end = from + 1;
            if (isSmall(text[from])) {
                while (end < n && isSmall(text[end])) {
                    end++;
                }
            } else if (isDigit(text[from])) {
                while (end < n && isDigit(text[end])) {
                    end++;
                }
            }
            return end;
        }

        static int meaning(int[] text, int from, int end) {
            if (isSmall(text[from])) {
                return wordOf(text, from, end);
            }
            if (isDigit(text[from])) {
                return numberOf(text, from, end);
            }
            return SIGNS.indexOf((char) text[from]) >= 0 ? FIRST_SIGN + text[from] : BAD;
        }

        private static int numberOf(int[] text, int from, int end) {
            if (end - from > 3) {
                return BAD;
            }
            int number = 0;
            for (int i = from; i < end; i++) {
                number = number * 10 + text[i] - '0';
            }
            return number;
        }

        private static int wordOf(int[] text, int from, int end) {
            for (int w = 0; w < WORD_COUNT && end - from < WORD_WIDTH; w++) {
                int same = 0;
                while (same < end - from && WORDS.charAt(w * WORD_WIDTH + same) == text[from + same]) {
                    same++;
                }
                if (same == end - from && WORDS.charAt(w * WORD_WIDTH + same) == ' ') {
                    return FIRST_WORD + w;
                }
            }
            return OTHER_WORD;
        }
    }

    /** Reads a text into a plan and a stock, up to its first fault. */
    private static final class Reader {
        private static final int NO_TOKEN = 1;
        private static final int CANNOT_STAND = 2;
        private static final int OUT_OF_BOUNDS = 3;
        private static final int ONE_TOO_MANY = 4;

        private final int[] tokens = new int[MOST_BYTES + 1];
        private final int[] places = new int[MOST_BYTES + 1];
        private int at = 0;
        private Plan plan;
        private Stock stock;
        int fault = 0;
        int faultPlace = NONE;

        Reader(Plan plan, Stock stock) {
            this.plan = plan;
            this.stock = stock;
        }

        void read(int[] text, int n, Plan intoPlan, Stock intoStock) {
            plan = intoPlan;
            stock = intoStock;
            plan.clear();
            stock.clear();
            split(text, n);
            at = 0;
            fault = 0;
            faultPlace = NONE;
            expect(Mark.SHOP);
            endLine();
            for (int i = 0; i < MOST_BYTES && fault == 0 && token() != Mark.END; i++) {
                line();
                endLine();
            }
        }

        private void split(int[] text, int n) {
            int size = 0;
            int i = 0;
            boolean good = true;
            while (i < n && i < text.length && good) {
                int end = i + 1;
                if (!Mark.isBlank(text[i])) {
                    end = Mark.endOf(text, i, n);
                    places[size] = i;
                    tokens[size] = Mark.meaning(text, i, end);
                    good = tokens[size] != Mark.BAD;
                    size++;
                }
                i = Math.max(i + 1, end);
            }
            places[size] = n;
            tokens[size] = Mark.END;
        }

        private int token() {
            return at < tokens.length ? tokens[at] : Mark.END;
        }

        private void fail(int kind) {
            if (fault == 0 && at < tokens.length) {
                fault = tokens[at] == Mark.BAD ? NO_TOKEN : kind;
                faultPlace = places[at];
            }
        }

        private void expect(int mark) {
            if (fault != 0) {
                return;
            }
            if (token() == mark) {
                at++;
            } else {
                fail(CANNOT_STAND);
            }
        }

        private void endLine() {
            expect(Mark.SEMICOLON);
            plan.lines++;
        }

        private int numberWithin(int least, int most) {
            int number = token();
            if (fault != 0) {
                return least;
            }
            if (number >= Mark.FIRST_WORD) {
                fail(CANNOT_STAND);
            } else if (number < least || number > most) {
                fail(OUT_OF_BOUNDS);
            } else {
                at++;
            }
            return number;
        }

        private void line() {
            switch (token()) {
                case Mark.KIND:
                    kindLine();
                    break;
                case Mark.BUYER:
                    buyerLine();
                    break;
                case Mark.WANTS:
                    at++;
                    expect(Mark.COLON);
                    plan.wantsFrom = plan.codeSize;
                    sum(0);
                    plan.wantsTo = plan.codeSize;
                    break;
                case Mark.LETS:
                    at++;
                    expect(Mark.COLON);
                    plan.letsFrom = plan.codeSize;
                    truth(0);
                    plan.letsTo = plan.codeSize;
                    break;
                default:
                    fail(CANNOT_STAND);
            }
        }

        private void kindLine() {
            int k = stock.kinds;
            if (k >= MOST_KINDS) {
                fail(ONE_TOO_MANY);
                return;
            }
            at++;
            expect(Mark.PRICE);
            stock.price[k] = numberWithin(1, MOST_PRICE);
            stock.group[k] = 0;
            stock.kinds++;
            boolean more = true;
            for (int i = 0; i < MOST_BYTES && more && fault == 0; i++) {
                more = takeFlag(k);
            }
        }

        private boolean takeFlag(int k) {
            int flag = token();
            if (flag != Mark.GROUP && flag != Mark.SOLD && flag != Mark.HIDDEN) {
                return false;
            }
            at++;
            if (flag == Mark.GROUP) {
                stock.group[k] = numberWithin(0, MOST_DIGIT);
            } else if (flag == Mark.SOLD) {
                stock.sold |= 1 << k;
            } else {
                stock.hidden |= 1 << k;
            }
            return true;
        }

        private void buyerLine() {
            int b = plan.buyers;
            if (b >= MOST_BUYERS) {
                fail(ONE_TOO_MANY);
                return;
            }
            at++;
            expect(Mark.PURSE);
            plan.purse[b] = numberWithin(0, MOST_PURSE);
            plan.mind[b] = 0;
            plan.odds[b] = 1;
            plan.buyers++;
            boolean more = true;
            for (int i = 0; i < MOST_BYTES && more && fault == 0; i++) {
                more = takeMark(b);
            }
        }

        private boolean takeMark(int b) {
            int mark = token();
            if (mark != Mark.MIND && mark != Mark.ODDS) {
                return false;
            }
            at++;
            int number = numberWithin(0, MOST_DIGIT);
            if (mark == Mark.MIND) {
                plan.mind[b] = number;
            } else {
                plan.odds[b] = number;
            }
            return true;
        }

        private void emit(int mark) {
            if (fault == 0 && plan.codeSize < plan.code.length) {
                plan.code[plan.codeSize] = mark;
                plan.codeSize++;
            }
        }

        private void truth(int depth) {
            both(depth);
            for (int i = 0; i < MOST_BYTES && fault == 0 && token() == Mark.OR; i++) {
                at++;
                both(depth);
                emit(Mark.OR);
            }
        }

        private void both(int depth) {
            unit(depth);
            for (int i = 0; i < MOST_BYTES && fault == 0 && token() == Mark.AND; i++) {
                at++;
                unit(depth);
                emit(Mark.AND);
            }
        }

        private void unit(int depth) {
            if (fault != 0) {
                return;
            }
            int first = token();
            if (first == Mark.NOT) {
                goDeeper(depth);
                unit(depth + 1);
                emit(Mark.NOT);
            } else if (first == Mark.OPEN_SQUARE) {
                goDeeper(depth);
                truth(depth + 1);
                expect(Mark.CLOSE_SQUARE);
            } else {
                sum(depth);
                int sign = token();
                if (sign == Mark.EQUAL || sign == Mark.LESS || sign == Mark.MORE) {
                    at++;
                    sum(depth);
                    emit(sign);
                } else {
                    fail(CANNOT_STAND);
                }
            }
        }

        /** Takes the token that opens a level, if it isn't the seventh within one another. */
        private void goDeeper(int depth) {
            if (depth >= MOST_NESTED) {
                fail(ONE_TOO_MANY);
            } else {
                at++;
            }
        }

        private void sum(int depth) {
            term(depth);
            int sign = token();
            for (int i = 0; i < MOST_BYTES && fault == 0 && (sign == Mark.PLUS || sign == Mark.MINUS); i++) {
                at++;
                term(depth);
                emit(sign);
                sign = token();
            }
        }

        private void term(int depth) {
            atom(depth);
            for (int i = 0; i < MOST_BYTES && fault == 0 && token() == Mark.TIMES; i++) {
                at++;
                atom(depth);
                emit(Mark.TIMES);
            }
        }

        private void atom(int depth) {
            if (fault != 0) {
                return;
            }
            int first = token();
            if (first < Mark.FIRST_WORD + Mark.FACTS) {
                at++;
                emit(first);
            } else if (first == Mark.OPEN) {
                goDeeper(depth);
                sum(depth + 1);
                expect(Mark.CLOSE);
            } else {
                fail(CANNOT_STAND);
            }
        }
    }

    /** How much each buyer wants what, and what it would buy: the laws at work. */
    private static final class Minds {
        private static final int UNKNOWN = -1;
        private static final int GONES = MOST_KINDS + 1;
        private static final int OF_A_KIND = MOST_BUYERS * GONES * 2;
        private static final int KEPT = 1000000;

        // By kind, buyer, how many are gone, whether it was sold: how much it is wanted, 0 if it won't be bought.
        private final int[] appetites = new int[MOST_KINDS * OF_A_KIND];
        private final int[] price = new int[MOST_KINDS];
        private final int[] group = new int[MOST_KINDS];
        private final int[] facts = new int[Mark.FACTS];
        private final int[] stack = new int[64];
        private Plan plan;
        private int kinds = 0;

        Minds(Plan plan) {
            this.plan = plan;
        }

        /** No kind's price is 0, so that each is weighed anew when it is looked at next. */
        void forget() {
            Arrays.fill(price, 0);
        }

        /** To be called ahead of all questions, whenever the plan, a kind or a price may be another. */
        void tune(Plan toPlan, Stock stock) {
            plan = toPlan;
            kinds = stock.kinds;
            for (int k = 0; k < kinds; k++) {
                if (price[k] != stock.price[k] || group[k] != stock.group[k]) {
                    price[k] = stock.price[k];
                    group[k] = stock.group[k];
                    for (int i = k * OF_A_KIND; i < (k + 1) * OF_A_KIND && i < appetites.length; i++) {
                        appetites[i] = UNKNOWN;
                    }
                }
            }
        }

        /** The kind that a buyer would buy with these sold and those hidden. */
        int choice(int b, int sold, int hidden) {
            int choice = NONE;
            int most = 0;
            if (((1 << kinds) - 1 & ~hidden & ~sold) == 0) {
                return choice;
            }
            int gone = Integer.bitCount(sold);
            for (int k = 0; k < kinds; k++) {
                if ((hidden >> k & 1) == 0) {
                    int at = k * OF_A_KIND + (b * GONES + gone) * 2 + (sold >> k & 1);
                    int appetite = at >= 0 && at < appetites.length ? appetites[at] : 0;
                    if (appetite == UNKNOWN) {
                        appetite = lets(b, k, sold) ? Math.max(0, wish(b, k, sold)) : 0;
                        appetites[at] = appetite;
                    }
                    if (appetite > most) {
                        most = appetite;
                        choice = k;
                    }
                }
            }
            return choice;
        }

        int allowed(int b, int sold, int hidden) {
            int bits = 0;
            for (int k = 0; k < kinds; k++) {
                if ((hidden >> k & 1) == 0 && lets(b, k, sold)) {
                    bits |= 1 << k;
                }
            }
            return bits;
        }

        private boolean lets(int b, int k, int sold) {
            if (price[k] > plan.purse[b]) {
                return false;
            }
            if (plan.letsFrom == plan.letsTo) {
                return true;
            }
            learn(b, k, sold);
            return reckon(plan.letsFrom, plan.letsTo) != 0;
        }

        int wish(int b, int k, int sold) {
            if (plan.wantsFrom == plan.wantsTo) {
                return plan.purse[b] - price[k];
            }
            learn(b, k, sold);
            return reckon(plan.wantsFrom, plan.wantsTo);
        }

        private void learn(int b, int k, int sold) {
            facts[Mark.WHO - Mark.FIRST_WORD] = b;
            facts[Mark.PURSE - Mark.FIRST_WORD] = plan.purse[b];
            facts[Mark.MIND - Mark.FIRST_WORD] = plan.mind[b];
            facts[Mark.KIND - Mark.FIRST_WORD] = k;
            facts[Mark.PRICE - Mark.FIRST_WORD] = price[k];
            facts[Mark.GROUP - Mark.FIRST_WORD] = group[k];
            facts[Mark.GONE - Mark.FIRST_WORD] = Integer.bitCount(sold);
            facts[Mark.SOLD - Mark.FIRST_WORD] = sold >> k & 1;
        }

        private int reckon(int from, int to) {
            int top = 0;
            for (int i = from; i < to && i < plan.code.length; i++) {
                int mark = plan.code[i];
                if (mark < Mark.FIRST_WORD + Mark.FACTS) {
                    if (top < stack.length) {
                        stack[top] = mark < Mark.FIRST_WORD ? mark : facts[mark - Mark.FIRST_WORD];
                        top++;
                    }
                } else if (mark == Mark.NOT) {
                    if (top >= 1) {
                        stack[top - 1] = 1 - stack[top - 1];
                    }
                } else if (top >= 2) {
                    top--;
                    stack[top - 1] = joined(stack[top - 1], mark, stack[top]);
                }
            }
            return top > 0 ? stack[top - 1] : 0;
        }

        private static int joined(long a, int mark, long b) {
            long value;
            switch (mark) {
                case Mark.PLUS:
                    value = a + b;
                    break;
                case Mark.MINUS:
                    value = a - b;
                    break;
                case Mark.TIMES:
                    value = a * b;
                    break;
                case Mark.EQUAL:
                    return a == b ? 1 : 0;
                case Mark.LESS:
                    return a < b ? 1 : 0;
                case Mark.MORE:
                    return a > b ? 1 : 0;
                case Mark.AND:
                    return (int) (a & b);
                default:
                    return (int) (a | b);
            }
            if (value > KEPT) {
                return KEPT;
            }
            return value < -KEPT ? -KEPT : (int) value;
        }
    }

    /** Does deeds on a stock; a refused one answers by its code and changes nothing. */
    private static final class Hands {
        private static final int GIFTS_FROM = 100;
        private static final int HIDES_FROM = 200;
        private static final int PRICES_FROM = 1000;
        private static final int PRICES_TO = 1999;

        private final Minds minds;

        Hands(Minds minds) {
            this.minds = minds;
        }

        int visitBy(Plan plan, Stock stock, int b) {
            if (b < 0 || b >= plan.buyers) {
                return NO_SUCH_DEED;
            }
            if (stock.isShut()) {
                return SHUT_NOW;
            }
            minds.tune(plan, stock);
            int k = minds.choice(b, stock.sold, stock.hidden);
            if (k < 0) {
                return CANNOT;
            }
            stock.sold |= 1 << k;
            stock.till += stock.price[k];
            return k;
        }

        int giveAway(Stock stock, int k) {
            if (!stock.holds(k)) {
                return NO_SUCH_DEED;
            }
            if (stock.isShut()) {
                return SHUT_NOW;
            }
            stock.gifts++;
            return stock.gifts;
        }

        int turn(Stock stock, int k) {
            if (!stock.holds(k)) {
                return NO_SUCH_DEED;
            }
            if (stock.isShut()) {
                return SHUT_NOW;
            }
            stock.hidden ^= 1 << k;
            return stock.hidden >> k & 1;
        }

        int bringIn(Stock stock, int price, int group) {
            if (price < 1 || price > MOST_PRICE || group < 0 || group > MOST_DIGIT) {
                return NO_SUCH_DEED;
            }
            if (stock.isShut()) {
                return SHUT_NOW;
            }
            if (stock.kinds >= MOST_KINDS) {
                return CANNOT;
            }
            stock.price[stock.kinds] = price;
            stock.group[stock.kinds] = group;
            stock.kinds++;
            return stock.kinds - 1;
        }

        int reprice(Stock stock, int k, int price) {
            if (!stock.holds(k) || price < 1 || price > MOST_PRICE) {
                return NO_SUCH_DEED;
            }
            if (stock.isShut()) {
                return SHUT_NOW;
            }
            int old = stock.price[k];
            stock.price[k] = price;
            return old;
        }

        /** The buyer that comes on a day, NONE if nobody does. */
        private int passDay(Plan plan, Stock stock) {
            stock.day++;
            int together = plan.together();
            return together > 0 ? plan.comerFor(stock.draw() % together) : NONE;
        }

        /** A deed as a tray tells it; a day answers how many things were bought on it. */
        int carryOut(Plan plan, Stock stock, long deed) {
            if (deed < NONE || deed > PRICES_TO) {
                return NO_SUCH_DEED;
            }
            int told = (int) deed;
            if (told == NONE) {
                int comer = passDay(plan, stock);
                return visitBy(plan, stock, comer) >= 0 ? 1 : 0;
            }
            if (told <= MOST_DIGIT) {
                return visitBy(plan, stock, told);
            }
            if (told >= GIFTS_FROM && told <= GIFTS_FROM + MOST_DIGIT) {
                return giveAway(stock, told - GIFTS_FROM);
            }
            if (told >= HIDES_FROM && told <= HIDES_FROM + MOST_DIGIT) {
                return turn(stock, told - HIDES_FROM);
            }
            if (told >= PRICES_FROM) {
                return reprice(stock, (told - PRICES_FROM) / 100, told % 100);
            }
            return NO_SUCH_DEED;
        }

        /** The next deed of a season, as a tray tells it. */
        int drawDeed(Stock stock) {
            switch (stock.draw() % 5) {
                case 2:
                    return stock.draw() % MOST_BUYERS;
                case 3:
                    return GIFTS_FROM + stock.draw() % MOST_KINDS;
                case 4:
                    return HIDES_FROM + stock.draw() % MOST_KINDS;
                default:
                    return NONE;
            }
        }
    }

    /** What is to come by visits alone, over the sets of kinds that can have been sold. */
    private static final class Outlook {
        private final Minds minds;
        private final int[] picks = new int[SETS * MOST_BUYERS];
        private final int[] met = new int[SETS];
        private final int[] far = new int[SETS];
        private long[] ways = new long[SETS];
        private long[] next = new long[SETS];
        final long[] shutWays = new long[MOST_BUYERS];
        long whole = 1;
        long taken = 0;
        private Plan plan;
        private Stock stock;
        private int every = 0;
        private int onSale = 0;
        private int start = 0;

        Outlook(Minds minds, Plan plan, Stock stock) {
            this.minds = minds;
            this.plan = plan;
            this.stock = stock;
        }

        private void aim(Plan atPlan, Stock atStock, int hidden) {
            plan = atPlan;
            stock = atStock;
            every = stock.everyKind();
            onSale = every & ~hidden;
            start = stock.sold & every;
            minds.tune(plan, stock);
        }

        /** Finds what can be sold from now on, and what each buyer would buy then. */
        void look(Plan atPlan, Stock atStock, int hidden) {
            aim(atPlan, atStock, hidden);
            Arrays.fill(met, 0);
            met[start] = 1;
            for (int set = start; set <= every; set++) {
                if (met[set] == 1) {
                    meet(set, hidden);
                }
            }
        }

        /** As look, but from each set of kinds, as if it had been sold by now. */
        void lookEverywhere(Plan atPlan, Stock atStock) {
            aim(atPlan, atStock, atStock.hidden);
            for (int set = 0; set <= every; set++) {
                meet(set, atStock.hidden);
            }
        }

        private void meet(int set, int hidden) {
            met[set] = 1;
            for (int b = 0; b < plan.buyers; b++) {
                int k = minds.choice(b, set, hidden);
                picks[set * MOST_BUYERS + b] = k;
                if (k >= 0) {
                    met[set | 1 << k] = 1;
                }
            }
        }

        int everyKind() {
            return every;
        }

        int buyers() {
            return plan.buyers;
        }

        int pick(int set, int b) {
            int at = set * MOST_BUYERS + b;
            return at >= 0 && at < picks.length ? picks[at] : NONE;
        }

        boolean isMet(int set) {
            return met[set] == 1;
        }

        private boolean isShutAt(int set) {
            return (onSale & ~set) == 0;
        }

        int takersNow() {
            int takers = 0;
            for (int b = 0; b < plan.buyers; b++) {
                if (pick(start, b) >= 0) {
                    takers |= 1 << b;
                }
            }
            return takers;
        }

        int shortest() {
            return measure((1 << plan.buyers) - 1);
        }

        /** How many visits of these buyers alone shut it. */
        private int measure(int comers) {
            for (int set = every; set >= start; set--) {
                if (met[set] == 1) {
                    far[set] = isShutAt(set) ? 0 : stepsFrom(set, comers);
                }
            }
            return far[start];
        }

        private int stepsFrom(int set, int comers) {
            int fewest = NONE;
            for (int b = 0; b < plan.buyers; b++) {
                int k = pick(set, b);
                if ((comers >> b & 1) == 1 && k >= 0 && (set >> k & 1) == 0) {
                    int rest = far[set | 1 << k];
                    if (rest >= 0 && (fewest == NONE || rest + 1 < fewest)) {
                        fewest = rest + 1;
                    }
                }
            }
            return fewest;
        }

        /** Behind shortest: the buyer that comes at a place of the ending. */
        int comerAt(int place) {
            int set = start;
            int comer = NONE;
            for (int i = 0; i <= place && i <= MOST_KINDS; i++) {
                comer = nearestComer(set);
                if (comer == NONE) {
                    return NONE;
                }
                set |= 1 << pick(set, comer);
            }
            return comer;
        }

        private int nearestComer(int set) {
            for (int b = 0; b < plan.buyers; b++) {
                int k = pick(set, b);
                if (k >= 0 && (set >> k & 1) == 0 && far[set | 1 << k] >= 0 && far[set | 1 << k] < far[set]) {
                    return b;
                }
            }
            return NONE;
        }

        int neededBuyers() {
            int needed = 0;
            int everyone = (1 << plan.buyers) - 1;
            if (measure(everyone) == NONE) {
                return needed;
            }
            for (int b = 0; b < plan.buyers; b++) {
                if (measure(everyone & ~(1 << b)) == NONE) {
                    needed |= 1 << b;
                }
            }
            return needed;
        }

        int everSold() {
            int ever = start;
            for (int set = start; set <= every; set++) {
                ever |= met[set] == 1 ? set : 0;
            }
            return ever;
        }

        int lastLeft() {
            int found = 0;
            for (int set = start; set <= every; set++) {
                int left = onSale & ~set;
                if (met[set] == 1 && Integer.bitCount(left) == 1) {
                    found |= left;
                }
            }
            return found;
        }

        void beginRows() {
            Arrays.fill(ways, 0L);
            ways[start] = 1;
        }

        /** One visit more in each row, which must buy this kind (NONE: some kind). */
        void lengthenRows(int bought) {
            Arrays.fill(next, 0L);
            for (int set = start; set <= every; set++) {
                for (int b = 0; b < plan.buyers && ways[set] != 0; b++) {
                    int k = pick(set, b);
                    if (k >= 0 && (bought == NONE || bought == k)) {
                        next[set | 1 << k] += ways[set];
                    }
                }
            }
            swapWays();
        }

        private void swapWays() {
            long[] old = ways;
            ways = next;
            next = old;
        }

        boolean isOnRow(int set) {
            return ways[set] != 0;
        }

        long allWays() {
            long sum = 0;
            for (int set = start; set <= every; set++) {
                sum += ways[set];
            }
            return sum;
        }

        long openWays() {
            long sum = 0;
            for (int set = start; set <= every; set++) {
                sum += isShutAt(set) ? 0 : ways[set];
            }
            return sum;
        }

        long soldWays(int k) {
            long sum = 0;
            for (int set = start; set <= every; set++) {
                sum += (set >> k & 1) == 1 ? ways[set] : 0;
            }
            return sum;
        }

        long rowsToShut(int n) {
            beginRows();
            for (int i = 0; i < n; i++) {
                lengthenRows(NONE);
            }
            return allWays() - openWays();
        }

        /** All ways in which n days can go by, each counted as often as the odds tell; the whole is all of them. */
        void passDays(int n) {
            beginRows();
            Arrays.fill(shutWays, 0L);
            whole = 1;
            taken = 0;
            int together = plan.together();
            for (int i = 0; i < n && together > 0; i++) {
                passDay(together);
            }
        }

        private void passDay(int together) {
            Arrays.fill(next, 0L);
            whole *= together;
            taken *= together;
            for (int b = 0; b < plan.buyers; b++) {
                shutWays[b] *= together;
            }
            for (int set = start; set <= every; set++) {
                if (ways[set] != 0) {
                    spread(set);
                }
            }
            swapWays();
        }

        private void spread(int set) {
            for (int b = 0; b < plan.buyers; b++) {
                long share = ways[set] * plan.odds[b];
                int k = pick(set, b);
                if (k < 0) {
                    next[set] += share;
                } else {
                    int then = set | 1 << k;
                    next[then] += share;
                    taken += share * stock.price[k];
                    shutWays[b] += isShutAt(then) ? share : 0;
                }
            }
        }
    }

    /** What trays of things seen tell, of what was sold ahead and of who came. */
    private static final class Clues {
        private final Outlook outlook;
        private final int[] then = new int[SETS];
        private final int[] tally = new int[NOTHING + 1];
        int sets = 0;
        int common = 0;

        Clues(Outlook outlook) {
            this.outlook = outlook;
        }

        /** The sets that fit what was seen; then[] has what each became by it, NONE if it doesn't fit. */
        void gather(Tray sights) {
            sets = 0;
            common = outlook.everyKind();
            for (int set = 0; set <= outlook.everyKind(); set++) {
                then[set] = behind(set, sights);
                if (then[set] != NONE) {
                    sets++;
                    common &= set;
                }
            }
        }

        private int behind(int set, Tray sights) {
            int now = set;
            for (int i = 0; i < sights.size(); i++) {
                int sight = (int) sights.numberAt(i);
                int bought = outlook.pick(now, sight / 10);
                if (bought != (sight % 10 == NOTHING ? NONE : sight % 10)) {
                    return NONE;
                }
                now |= bought >= 0 ? 1 << bought : 0;
            }
            return now;
        }

        int mostTelling() {
            int best = NONE;
            int least = SETS + 1;
            for (int b = 0; b < outlook.buyers(); b++) {
                int alike = mostAlike(b);
                if (alike < least) {
                    least = alike;
                    best = b;
                }
            }
            return best;
        }

        private int mostAlike(int b) {
            Arrays.fill(tally, 0);
            int most = 0;
            for (int set = 0; set <= outlook.everyKind(); set++) {
                if (then[set] != NONE) {
                    int bought = outlook.pick(then[set], b);
                    int at = bought >= 0 ? bought : NOTHING;
                    tally[at]++;
                    most = Math.max(most, tally[at]);
                }
            }
            return most;
        }

        long rows(Tray gone) {
            outlook.beginRows();
            for (int i = 0; i < gone.size(); i++) {
                outlook.lengthenRows((int) gone.numberAt(i));
            }
            return outlook.allWays();
        }

        /** Here then[set] is 1 where all that went behind the place can go with these sold. */
        int comers(Tray gone, int place) {
            Arrays.fill(then, 1);
            for (int i = gone.size() - 1; i > place; i--) {
                stepBack((int) gone.numberAt(i));
            }
            outlook.beginRows();
            for (int i = 0; i < place; i++) {
                outlook.lengthenRows((int) gone.numberAt(i));
            }
            int found = 0;
            for (int set = 0; set <= outlook.everyKind(); set++) {
                if (outlook.isOnRow(set)) {
                    found |= fitting(set, (int) gone.numberAt(place));
                }
            }
            return found;
        }

        /** A visit never leads to a lesser set: from the least on, none that is still to be read is changed. */
        private void stepBack(int bought) {
            for (int set = 0; set <= outlook.everyKind(); set++) {
                then[set] = outlook.isMet(set) && fitting(set, bought) != 0 ? 1 : 0;
            }
        }

        private int fitting(int set, int bought) {
            int found = 0;
            for (int b = 0; b < outlook.buyers(); b++) {
                int k = outlook.pick(set, b);
                if (k >= 0 && (bought == NONE || bought == k) && then[set | 1 << k] == 1) {
                    found |= 1 << b;
                }
            }
            return found;
        }
    }
}
