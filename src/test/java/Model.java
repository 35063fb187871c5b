import java.math.BigInteger;
import java.util.ArrayDeque;
import java.util.ArrayList;
import java.util.Arrays;
import java.util.Deque;
import java.util.HashMap;
import java.util.List;
import java.util.Map;
import java.util.TreeSet;
import java.util.function.ToLongFunction;

/**
 * The document once more, told slowly: closures for laws, whole rows of buyers where there are few, BigInteger
 * fractions. It shares no code with the class that it is held against.
 */
final class Model {
    static final int NONE = -1;

    record Kind(int price, int group) { }
    record Buyer(int purse, int mind, int odds) { }
    record Case(int who, Buyer buyer, int number, Kind kind, int gone, int sold) { }

    static final class Shop {
        final List<Buyer> buyers = new ArrayList<>();
        ToLongFunction<Case> wants = c -> c.buyer.purse - c.kind.price;
        ToLongFunction<Case> lets = c -> 1;
        int lines = 0;
    }

    record State(List<Kind> kinds, TreeSet<Integer> sold, TreeSet<Integer> hidden, int till, int gifts, int day, int x) {
        State copy() {
            return new State(new ArrayList<>(kinds), new TreeSet<>(sold), new TreeSet<>(hidden), till, gifts, day, x);
        }
    }

    static final class Tray {
        int sort;
        long[] v;
    }

    private final List<Integer> tape = new ArrayList<>();
    private int faultKind = 0;
    private int faultPlace = NONE;
    private Shop shop = new Shop();
    private List<Kind> kinds = new ArrayList<>();
    private TreeSet<Integer> sold = new TreeSet<>();
    private TreeSet<Integer> hidden = new TreeSet<>();
    private int till, gifts, day, x;
    private final Deque<State> past = new ArrayDeque<>();
    private final Tray[] trays = new Tray[4];
    private final Shop[] imageShops = new Shop[2];
    private final State[] imageStates = new State[2];

    private State save() {
        return new State(new ArrayList<>(kinds), new TreeSet<>(sold), new TreeSet<>(hidden), till, gifts, day, x);
    }

    private void load(State s) {
        State c = s.copy();
        kinds = c.kinds;
        sold = c.sold;
        hidden = c.hidden;
        till = c.till;
        gifts = c.gifts;
        day = c.day;
        x = c.x;
    }

    private void remember(State s) {
        past.addLast(s);
        if (past.size() > 10) {
            past.removeFirst();
        }
    }

    // ---- the text

    static final class Fault extends RuntimeException {
        final int kind;
        final int place;

        Fault(int kind, int place) {
            this.kind = kind;
            this.place = place;
        }
    }

    /** Reads token by token, straight from the text. */
    private static final class Text {
        final String text;
        int at = 0;
        Shop shop = new Shop();
        List<Kind> kinds = new ArrayList<>();
        TreeSet<Integer> sold = new TreeSet<>();
        TreeSet<Integer> hidden = new TreeSet<>();

        Text(String text) {
            this.text = text;
        }

        String peek() {
            while (at < text.length() && (text.charAt(at) == ' ' || text.charAt(at) == '\n')) {
                at++;
            }
            if (at == text.length()) {
                return "";
            }
            String rest = text.substring(at);
            for (String form : new String[] {"[a-z]+", "[0-9]+", "[-;:+*()\\[\\]=<>]"}) {
                java.util.regex.Matcher m = java.util.regex.Pattern.compile(form).matcher(rest);
                if (m.lookingAt()) {
                    String t = m.group();
                    if (Character.isDigit(t.charAt(0)) && t.length() > 3) {
                        throw new Fault(1, at);
                    }
                    return t;
                }
            }
            throw new Fault(1, at);
        }

        Fault cannot() {
            peek();
            return new Fault(2, at);
        }

        boolean take(String token) {
            String t = peek();
            if (t.equals(token)) {
                at += t.length();
                return true;
            }
            return false;
        }

        void must(String token) {
            if (!take(token)) {
                throw cannot();
            }
        }

        int number(int least, int most) {
            String t = peek();
            if (t.isEmpty() || !Character.isDigit(t.charAt(0))) {
                throw cannot();
            }
            int n = Integer.parseInt(t);
            if (n < least || n > most) {
                throw new Fault(3, at);
            }
            at += t.length();
            return n;
        }

        void read() {
            must("shop");
            must(";");
            shop.lines = 1;
            while (!peek().isEmpty()) {
                line();
                must(";");
                shop.lines++;
            }
        }

        void line() {
            String t = peek();
            if (t.equals("kind")) {
                if (kinds.size() == 8) {
                    throw new Fault(4, at);
                }
                take("kind");
                must("price");
                int price = number(1, 99);
                int group = 0;
                while (true) {
                    if (take("group")) {
                        group = number(0, 9);
                    } else if (take("sold")) {
                        sold.add(kinds.size());
                    } else if (take("hidden")) {
                        hidden.add(kinds.size());
                    } else {
                        break;
                    }
                }
                kinds.add(new Kind(price, group));
            } else if (t.equals("buyer")) {
                if (shop.buyers.size() == 6) {
                    throw new Fault(4, at);
                }
                take("buyer");
                must("purse");
                int purse = number(0, 999);
                int mind = 0;
                int odds = 1;
                while (true) {
                    if (take("mind")) {
                        mind = number(0, 9);
                    } else if (take("odds")) {
                        odds = number(0, 9);
                    } else {
                        break;
                    }
                }
                shop.buyers.add(new Buyer(purse, mind, odds));
            } else if (take("wants")) {
                must(":");
                shop.wants = sum(0);
            } else if (take("lets")) {
                must(":");
                shop.lets = truth(0);
            } else {
                throw cannot();
            }
        }

        int deeper(int depth) {
            if (depth == 6) {
                throw new Fault(4, at);
            }
            return depth + 1;
        }

        ToLongFunction<Case> truth(int depth) {
            ToLongFunction<Case> left = both(depth);
            while (take("or")) {
                ToLongFunction<Case> a = left;
                ToLongFunction<Case> b = both(depth);
                left = c -> a.applyAsLong(c) != 0 || b.applyAsLong(c) != 0 ? 1 : 0;
            }
            return left;
        }

        ToLongFunction<Case> both(int depth) {
            ToLongFunction<Case> left = unit(depth);
            while (take("and")) {
                ToLongFunction<Case> a = left;
                ToLongFunction<Case> b = unit(depth);
                left = c -> a.applyAsLong(c) != 0 && b.applyAsLong(c) != 0 ? 1 : 0;
            }
            return left;
        }

        ToLongFunction<Case> unit(int depth) {
            if (peek().equals("not")) {
                int d = deeper(depth);
                take("not");
                ToLongFunction<Case> a = unit(d);
                return c -> a.applyAsLong(c) == 0 ? 1 : 0;
            }
            if (peek().equals("[")) {
                int d = deeper(depth);
                take("[");
                ToLongFunction<Case> a = truth(d);
                must("]");
                return a;
            }
            ToLongFunction<Case> a = sum(depth);
            if (take("=")) {
                ToLongFunction<Case> b = sum(depth);
                return c -> a.applyAsLong(c) == b.applyAsLong(c) ? 1 : 0;
            }
            if (take("<")) {
                ToLongFunction<Case> b = sum(depth);
                return c -> a.applyAsLong(c) < b.applyAsLong(c) ? 1 : 0;
            }
            if (take(">")) {
                ToLongFunction<Case> b = sum(depth);
                return c -> a.applyAsLong(c) > b.applyAsLong(c) ? 1 : 0;
            }
            throw cannot();
        }

        static long kept(long v) {
            return Math.max(-1000000, Math.min(1000000, v));
        }

        ToLongFunction<Case> sum(int depth) {
            ToLongFunction<Case> left = term(depth);
            while (true) {
                ToLongFunction<Case> a = left;
                if (take("+")) {
                    ToLongFunction<Case> b = term(depth);
                    left = c -> kept(a.applyAsLong(c) + b.applyAsLong(c));
                } else if (take("-")) {
                    ToLongFunction<Case> b = term(depth);
                    left = c -> kept(a.applyAsLong(c) - b.applyAsLong(c));
                } else {
                    return left;
                }
            }
        }

        ToLongFunction<Case> term(int depth) {
            ToLongFunction<Case> left = atom(depth);
            while (take("*")) {
                ToLongFunction<Case> a = left;
                ToLongFunction<Case> b = atom(depth);
                left = c -> kept(a.applyAsLong(c) * b.applyAsLong(c));
            }
            return left;
        }

        ToLongFunction<Case> atom(int depth) {
            String t = peek();
            if (t.equals("(")) {
                int d = deeper(depth);
                take("(");
                ToLongFunction<Case> a = sum(d);
                must(")");
                return a;
            }
            if (!t.isEmpty() && Character.isDigit(t.charAt(0))) {
                long n = number(0, 999);
                return c -> n;
            }
            ToLongFunction<Case> fact = switch (t) {
                case "who" -> c -> c.who;
                case "purse" -> c -> c.buyer.purse;
                case "mind" -> c -> c.buyer.mind;
                case "kind" -> c -> c.number;
                case "price" -> c -> c.kind.price;
                case "group" -> c -> c.kind.group;
                case "gone" -> c -> c.gone;
                case "sold" -> c -> c.sold;
                default -> null;
            };
            if (fact == null) {
                throw cannot();
            }
            take(t);
            return fact;
        }
    }

    int feed(int a, int b, int c, int d, int e) {
        if (tape.size() + 20 > 900) {
            return -5;
        }
        for (int v : new int[] {a, b, c, d, e}) {
            tape.add(v >>> 24);
            tape.add(v >> 16 & 255);
            tape.add(v >> 8 & 255);
            tape.add(v & 255);
        }
        return tape.size();
    }

    int shop(int n) {
        if (n < 0 || n > tape.size()) {
            return -3;
        }
        StringBuilder b = new StringBuilder();
        for (int i = 0; i < n; i++) {
            b.append((char) (int) tape.get(i));
        }
        tape.clear();
        Text t = new Text(b.toString());
        try {
            t.read();
        } catch (Fault f) {
            faultKind = f.kind;
            faultPlace = f.place;
            return -30 - f.kind;
        }
        faultKind = 0;
        faultPlace = NONE;
        shop = t.shop;
        kinds = t.kinds;
        sold = t.sold;
        hidden = t.hidden;
        till = 0;
        gifts = 0;
        x = 0;
        past.clear();
        return shop.lines;
    }

    int fault(int what) {
        return what == 0 ? faultKind : what == 1 ? faultPlace : NONE;
    }

    // ---- what is wanted

    private boolean isKind(long k) {
        return k >= 0 && k < kinds.size();
    }

    private boolean isBuyer(long b) {
        return b >= 0 && b < shop.buyers.size();
    }

    private Case caseOf(int b, int k, List<Kind> kinds, TreeSet<Integer> sold) {
        return new Case(b, shop.buyers.get(b), k, kinds.get(k), sold.size(), sold.contains(k) ? 1 : 0);
    }

    private boolean may(int b, int k, List<Kind> kinds, TreeSet<Integer> sold, TreeSet<Integer> hidden) {
        return shop.lets.applyAsLong(caseOf(b, k, kinds, sold)) != 0 && !hidden.contains(k)
            && kinds.get(k).price <= shop.buyers.get(b).purse;
    }

    private static boolean shut(List<Kind> kinds, TreeSet<Integer> sold, TreeSet<Integer> hidden) {
        for (int k = 0; k < kinds.size(); k++) {
            if (!hidden.contains(k) && !sold.contains(k)) {
                return false;
            }
        }
        return true;
    }

    private boolean shut() {
        return shut(kinds, sold, hidden);
    }

    private int buys(int b, List<Kind> kinds, TreeSet<Integer> sold, TreeSet<Integer> hidden) {
        if (shut(kinds, sold, hidden)) {
            return NONE;
        }
        long most = 0;
        int which = NONE;
        for (int k = 0; k < kinds.size(); k++) {
            if (may(b, k, kinds, sold, hidden)) {
                long w = shop.wants.applyAsLong(caseOf(b, k, kinds, sold));
                if (w > most) {
                    most = w;
                    which = k;
                }
            }
        }
        return which;
    }

    private int buys(int b) {
        return buys(b, kinds, sold, hidden);
    }

    int kind(int k, int what) {
        if (!isKind(k) || what < 0 || what > 4) {
            return -2;
        }
        int takers = 0;
        for (int b = 0; b < shop.buyers.size(); b++) {
            takers += buys(b) == k ? 1 << b : 0;
        }
        int[] answers = {kinds.get(k).price, kinds.get(k).group, sold.contains(k) ? 1 : 0, hidden.contains(k) ? 1 : 0,
            takers};
        return answers[what];
    }

    int buyer(int b, int what) {
        if (!isBuyer(b) || what < 0 || what > 4) {
            return -2;
        }
        Buyer y = shop.buyers.get(b);
        int allowed = 0;
        for (int k = 0; k < kinds.size(); k++) {
            allowed += may(b, k, kinds, sold, hidden) ? 1 << k : 0;
        }
        return new int[] {y.purse, y.mind, y.odds, allowed, buys(b)}[what];
    }

    int wants(int b, int k) {
        return isBuyer(b) && isKind(k) ? (int) shop.wants.applyAsLong(caseOf(b, k, kinds, sold)) : -99000002;
    }

    // ---- deeds

    private int draw() {
        x = x * 1103515245 + 12345;
        return x >>> 16;
    }

    int seed(int n) {
        remember(save());
        int old = x;
        x = n;
        return old;
    }

    private int told(long v) {
        if (v == NONE) {
            day++;
            List<Integer> urn = new ArrayList<>();
            for (int b = 0; b < shop.buyers.size(); b++) {
                for (int i = 0; i < shop.buyers.get(b).odds; i++) {
                    urn.add(b);
                }
            }
            return urn.isEmpty() ? 0 : told(urn.get(draw() % urn.size())) >= 0 ? 1 : 0;
        }
        if (v >= 0 && v <= 9) {
            if (!isBuyer(v)) {
                return -11;
            }
            if (shut()) {
                return -12;
            }
            int k = buys((int) v);
            if (k == NONE) {
                return -13;
            }
            sold.add(k);
            till += kinds.get(k).price;
            return k;
        }
        if (v >= 100 && v <= 109) {
            if (!isKind(v - 100)) {
                return -11;
            }
            return shut() ? -12 : ++gifts;
        }
        if (v >= 200 && v <= 209) {
            if (!isKind(v - 200)) {
                return -11;
            }
            if (shut()) {
                return -12;
            }
            int k = (int) v - 200;
            if (hidden.remove(k)) {
                return 0;
            }
            hidden.add(k);
            return 1;
        }
        if (v >= 1000 && v <= 1999) {
            return reprice((int) (v - 1000) / 100, (int) (v % 100));
        }
        return -11;
    }

    private int reprice(int k, int n) {
        if (!isKind(k) || n < 1 || n > 99) {
            return -11;
        }
        if (shut()) {
            return -12;
        }
        int old = kinds.get(k).price;
        kinds.set(k, new Kind(n, kinds.get(k).group));
        return old;
    }

    private int one(long deed) {
        State s = save();
        int r = told(deed);
        if (r >= 0) {
            remember(s);
        }
        return r;
    }

    int visit(int b) {
        return isBuyer(b) ? one(b) : -11;
    }

    int gift(int k) {
        return isKind(k) ? one(100 + k) : -11;
    }

    int hide(int k) {
        return isKind(k) ? one(200 + k) : -11;
    }

    int add(int price, int group) {
        if (price < 1 || price > 99 || group < 0 || group > 9) {
            return -11;
        }
        if (shut()) {
            return -12;
        }
        if (kinds.size() == 8) {
            return -13;
        }
        remember(save());
        kinds.add(new Kind(price, group));
        return kinds.size() - 1;
    }

    int price(int k, int n) {
        State s = save();
        int r = reprice(k, n);
        if (r >= 0) {
            remember(s);
        }
        return r;
    }

    int days(int n) {
        if (n < 1 || n > 99) {
            return -3;
        }
        remember(save());
        int sum = 0;
        for (int i = 0; i < n; i++) {
            sum += told(NONE);
        }
        return sum;
    }

    int undo(int n) {
        if (n < 1 || n > past.size()) {
            return -3;
        }
        for (int i = 0; i < n; i++) {
            load(past.removeLast());
        }
        return past.size();
    }

    private static int bits(TreeSet<Integer> set) {
        int b = 0;
        for (int k : set) {
            b |= 1 << k;
        }
        return b;
    }

    int judge(int tray, int what) {
        if (tray < 0 || tray > 3 || what < 0 || what > 3) {
            return -2;
        }
        if (trays[tray] == null) {
            return -6;
        }
        State s = save();
        int[] answers = {NONE, 0, 0, 0};
        for (int i = 0; i < trays[tray].v.length; i++) {
            int r = told(trays[tray].v[i]);
            if (r < 0) {
                answers[0] = i;
                answers[1] = -10 - r;
                break;
            }
        }
        answers[2] = bits(sold);
        answers[3] = till;
        load(s);
        return answers[what];
    }

    private int trayFault(int tray) {
        return tray < 0 || tray > 3 ? -2 : trays[tray] == null ? -6 : 0;
    }

    int perform(int tray) {
        if (trayFault(tray) != 0) {
            return trayFault(tray);
        }
        State s = save();
        int done = 0;
        for (long v : trays[tray].v) {
            if (told(v) < 0) {
                break;
            }
            done++;
        }
        if (done > 0) {
            remember(s);
        }
        return done;
    }

    int season(int seed, int times) {
        if (times < 1 || times > 40) {
            return -3;
        }
        State s = save();
        x = seed;
        int could = 0;
        for (int i = 0; i < times; i++) {
            int what = draw() % 5;
            long deed = what < 2 ? NONE : what == 2 ? draw() % 6 : what == 3 ? 100 + draw() % 8 : 200 + draw() % 8;
            could += told(deed) >= 0 ? 1 : 0;
        }
        if (could > 0) {
            remember(s);
        } else {
            load(s);
        }
        return could;
    }

    // ---- to come

    private static TreeSet<Integer> with(TreeSet<Integer> set, int k) {
        TreeSet<Integer> more = new TreeSet<>(set);
        more.add(k);
        return more;
    }

    /** The first of the shortest rows by a search level by level; rows in their order, each set once. */
    private List<Integer> shortest(TreeSet<Integer> hidden, int without) {
        Map<TreeSet<Integer>, List<Integer>> level = new java.util.LinkedHashMap<>();
        level.put(sold, List.of());
        java.util.Set<TreeSet<Integer>> known = new java.util.HashSet<>();
        known.add(sold);
        while (!level.isEmpty()) {
            for (Map.Entry<TreeSet<Integer>, List<Integer>> e : level.entrySet()) {
                if (shut(kinds, e.getKey(), hidden)) {
                    return e.getValue();
                }
            }
            Map<TreeSet<Integer>, List<Integer>> next = new java.util.LinkedHashMap<>();
            for (Map.Entry<TreeSet<Integer>, List<Integer>> e : level.entrySet()) {
                for (int b = 0; b < shop.buyers.size(); b++) {
                    int k = b == without ? NONE : buys(b, kinds, e.getKey(), hidden);
                    if (k != NONE && known.add(with(e.getKey(), k))) {
                        List<Integer> row = new ArrayList<>(e.getValue());
                        row.add(b);
                        next.put(with(e.getKey(), k), row);
                    }
                }
            }
            level = next;
        }
        return null;
    }

    int ending() {
        List<Integer> row = shortest(hidden, NONE);
        return row == null ? NONE : row.size();
    }

    int endingBy(int i) {
        if (i < 0) {
            return -3;
        }
        List<Integer> row = shortest(hidden, NONE);
        return row == null || i >= row.size() ? NONE : row.get(i);
    }

    private long rows(TreeSet<Integer> set, int n, Map<List<Object>, Long> known) {
        if (n == 0) {
            return shut(kinds, set, hidden) ? 1 : 0;
        }
        List<Object> key = List.of(set, n);
        Long old = known.get(key);
        if (old != null) {
            return old;
        }
        long sum = 0;
        for (int b = 0; b < shop.buyers.size(); b++) {
            int k = buys(b, kinds, set, hidden);
            if (k != NONE) {
                sum += rows(with(set, k), n - 1, known);
            }
        }
        known.put(key, sum);
        return sum;
    }

    long endings(int n) {
        return n < 0 || n > 15 ? -3 : rows(sold, n, new HashMap<>());
    }

    int needed() {
        int found = 0;
        for (int b = 0; b < shop.buyers.size() && shortest(hidden, NONE) != null; b++) {
            found |= shortest(hidden, b) == null ? 1 << b : 0;
        }
        return found;
    }

    private void reach(TreeSet<Integer> set, java.util.Set<TreeSet<Integer>> all) {
        if (all.add(set)) {
            for (int b = 0; b < shop.buyers.size(); b++) {
                int k = buys(b, kinds, set, hidden);
                if (k != NONE) {
                    reach(with(set, k), all);
                }
            }
        }
    }

    int sellable() {
        java.util.Set<TreeSet<Integer>> all = new java.util.HashSet<>();
        reach(sold, all);
        int found = 0;
        for (TreeSet<Integer> set : all) {
            found |= bits(set);
        }
        return found;
    }

    int guards() {
        int found = 0;
        for (int k = 0; k < kinds.size() && shortest(hidden, NONE) != null; k++) {
            if (!hidden.contains(k)) {
                found |= shortest(with(hidden, k), NONE) == null ? 1 << k : 0;
            }
        }
        return found;
    }

    int last() {
        java.util.Set<TreeSet<Integer>> all = new java.util.HashSet<>();
        reach(sold, all);
        int found = 0;
        for (TreeSet<Integer> set : all) {
            List<Integer> left = new ArrayList<>();
            for (int k = 0; k < kinds.size(); k++) {
                if (!hidden.contains(k) && !set.contains(k)) {
                    left.add(k);
                }
            }
            found |= left.size() == 1 ? 1 << left.get(0) : 0;
        }
        return found;
    }

    /** What a question asks of days to come, in fractions: how it counts the end, and each visit. */
    interface Count {
        BigInteger end(TreeSet<Integer> set);

        BigInteger visit(int b, int k, TreeSet<Integer> behind);
    }

    private int together() {
        int sum = 0;
        for (Buyer y : shop.buyers) {
            sum += y.odds;
        }
        return sum;
    }

    /** The sum of a count over all that can come in n days, over together ^ n. */
    private BigInteger mean(TreeSet<Integer> set, int n, List<Kind> kinds, TreeSet<Integer> hidden, Count count,
        Map<List<Object>, BigInteger> known) {
        if (n == 0 || together() == 0) {
            return count.end(set);
        }
        List<Object> key = List.of(set, n);
        BigInteger old = known.get(key);
        if (old != null) {
            return old;
        }
        BigInteger rest = BigInteger.valueOf(together()).pow(n - 1);
        BigInteger sum = BigInteger.ZERO;
        for (int b = 0; b < shop.buyers.size(); b++) {
            BigInteger odds = BigInteger.valueOf(shop.buyers.get(b).odds);
            int k = buys(b, kinds, set, hidden);
            TreeSet<Integer> behind = k == NONE ? set : with(set, k);
            BigInteger part = mean(behind, n - 1, kinds, hidden, count, known);
            if (k != NONE) {
                part = part.add(count.visit(b, k, behind).multiply(rest));
            }
            sum = sum.add(odds.multiply(part));
        }
        known.put(key, sum);
        return sum;
    }

    private BigInteger mean(int n, List<Kind> kinds, TreeSet<Integer> hidden, Count count) {
        return mean(sold, n, kinds, hidden, count, new HashMap<>());
    }

    private BigInteger below(int n) {
        return together() == 0 ? BigInteger.ONE : BigInteger.valueOf(together()).pow(n);
    }

    private static long part(BigInteger above, BigInteger below, int what) {
        BigInteger g = above.gcd(below);
        return (what == 0 ? above : below).divide(g).longValueExact();
    }

    private Count whenOpen(List<Kind> kinds, TreeSet<Integer> hidden) {
        return new Count() {
            public BigInteger end(TreeSet<Integer> set) {
                return shut(kinds, set, hidden) ? BigInteger.ZERO : BigInteger.ONE;
            }

            public BigInteger visit(int b, int k, TreeSet<Integer> behind) {
                return BigInteger.ZERO;
            }
        };
    }

    long open(int n, int what) {
        if (what < 0 || what > 1) {
            return -2;
        }
        return n < 0 || n > 10 ? -3 : part(mean(n, kinds, hidden, whenOpen(kinds, hidden)), below(n), what);
    }

    int likely(int m) {
        if (m < 0 || m > 100) {
            return -3;
        }
        for (int n = 0; n <= 10; n++) {
            BigInteger closed = below(n).subtract(mean(n, kinds, hidden, whenOpen(kinds, hidden)));
            if (closed.multiply(BigInteger.valueOf(100)).compareTo(below(n).multiply(BigInteger.valueOf(m))) >= 0) {
                return n;
            }
        }
        return NONE;
    }

    private BigInteger shutting(int who, int n) {
        return mean(n, kinds, hidden, new Count() {
            public BigInteger end(TreeSet<Integer> set) {
                return BigInteger.ZERO;
            }

            public BigInteger visit(int b, int k, TreeSet<Integer> behind) {
                return b == who && shut(kinds, behind, hidden) ? BigInteger.ONE : BigInteger.ZERO;
            }
        });
    }

    long shutsBy(int b, int n, int what) {
        if (!isBuyer(b) || what < 0 || what > 1) {
            return -2;
        }
        return n < 0 || n > 10 ? -3 : part(shutting(b, n), below(n), what);
    }

    int closer(int n) {
        if (n < 0 || n > 10) {
            return -3;
        }
        int which = NONE;
        BigInteger most = BigInteger.ZERO;
        for (int b = 0; b < shop.buyers.size(); b++) {
            BigInteger here = shutting(b, n);
            if (here.compareTo(most) > 0) {
                most = here;
                which = b;
            }
        }
        return which;
    }

    long soldIn(int k, int n, int what) {
        if (!isKind(k) || what < 0 || what > 1) {
            return -2;
        }
        if (n < 0 || n > 10) {
            return -3;
        }
        BigInteger above = mean(n, kinds, hidden, new Count() {
            public BigInteger end(TreeSet<Integer> set) {
                return set.contains(k) ? BigInteger.ONE : BigInteger.ZERO;
            }

            public BigInteger visit(int b, int bought, TreeSet<Integer> behind) {
                return BigInteger.ZERO;
            }
        });
        return part(above, below(n), what);
    }

    /** Sets of kinds that aren't hidden now, the fewest first, then the least as bits. */
    private List<TreeSet<Integer>> hideable(int most) {
        List<Integer> masks = new ArrayList<>();
        for (int m = 0; m < 1 << kinds.size(); m++) {
            if ((m & bits(hidden)) == 0 && Integer.bitCount(m) <= most) {
                masks.add(m);
            }
        }
        masks.sort((a, b) -> Integer.bitCount(a) != Integer.bitCount(b)
            ? Integer.compare(Integer.bitCount(a), Integer.bitCount(b)) : Integer.compare(a, b));
        List<TreeSet<Integer>> sets = new ArrayList<>();
        for (int m : masks) {
            TreeSet<Integer> set = new TreeSet<>();
            for (int k = 0; k < kinds.size(); k++) {
                if ((m >> k & 1) == 1) {
                    set.add(k);
                }
            }
            sets.add(set);
        }
        return sets;
    }

    private TreeSet<Integer> union(TreeSet<Integer> a, TreeSet<Integer> b) {
        TreeSet<Integer> both = new TreeSet<>(a);
        both.addAll(b);
        return both;
    }

    int hides(int m, int n, int what) {
        if (what < 0 || what > 1) {
            return -2;
        }
        if (m < 0 || m > 3 || n < 1 || n > 6) {
            return -3;
        }
        if (shut()) {
            return -5;
        }
        TreeSet<Integer> best = null;
        BigInteger most = null;
        for (TreeSet<Integer> set : hideable(m)) {
            TreeSet<Integer> gone = union(hidden, set);
            BigInteger here = mean(n, kinds, gone, whenOpen(kinds, gone));
            if (most == null || here.compareTo(most) > 0) {
                most = here;
                best = set;
            }
        }
        return what == 0 ? best.size() : bits(best);
    }

    int rota(int what) {
        if (what < 0 || what > 1) {
            return -2;
        }
        if (shut()) {
            return -5;
        }
        for (TreeSet<Integer> set : hideable(8)) {
            TreeSet<Integer> gone = union(hidden, set);
            boolean fits = shortest(gone, NONE) == null;
            for (int b = 0; b < shop.buyers.size(); b++) {
                fits &= buys(b) == NONE || buys(b, kinds, sold, gone) != NONE;
            }
            if (fits) {
                return what == 0 ? set.size() : bits(set);
            }
        }
        return NONE;
    }

    private BigInteger takings(int n, List<Kind> kinds) {
        return mean(n, kinds, hidden, new Count() {
            public BigInteger end(TreeSet<Integer> set) {
                return BigInteger.ZERO;
            }

            public BigInteger visit(int b, int k, TreeSet<Integer> behind) {
                return BigInteger.valueOf(kinds.get(k).price);
            }
        });
    }

    long earns(int n, int what) {
        if (what < 0 || what > 1) {
            return -2;
        }
        return n < 0 || n > 8 ? -3 : part(takings(n, kinds), below(n), what);
    }

    int bestPrice(int k, int n) {
        if (!isKind(k)) {
            return -2;
        }
        if (n < 1 || n > 4) {
            return -3;
        }
        if (shut()) {
            return -5;
        }
        int best = 0;
        BigInteger most = null;
        for (int p = 1; p <= 99; p++) {
            List<Kind> others = new ArrayList<>(kinds);
            others.set(k, new Kind(p, kinds.get(k).group));
            BigInteger here = takings(n, others);
            if (most == null || here.compareTo(most) > 0) {
                most = here;
                best = p;
            }
        }
        return best;
    }

    // ---- what was gone, who came

    private int seenFault(int tray) {
        if (trayFault(tray) != 0) {
            return trayFault(tray);
        }
        long[] v = trays[tray].v;
        if (v.length < 1 || v.length > 12) {
            return -4;
        }
        for (long n : v) {
            if (n < 0 || !isBuyer(n / 10) || n % 10 != 9 && !isKind(n % 10)) {
                return -3;
            }
        }
        return 0;
    }

    /** The sets that can have been sold ahead, each with what it is behind what was seen. */
    private Map<TreeSet<Integer>, TreeSet<Integer>> fitting(int tray) {
        Map<TreeSet<Integer>, TreeSet<Integer>> found = new HashMap<>();
        for (int m = 0; m < 1 << kinds.size(); m++) {
            TreeSet<Integer> set = new TreeSet<>();
            for (int k = 0; k < kinds.size(); k++) {
                if ((m >> k & 1) == 1) {
                    set.add(k);
                }
            }
            TreeSet<Integer> now = set;
            boolean fits = true;
            for (long n : trays[tray].v) {
                int k = buys((int) n / 10, kinds, now, hidden);
                fits &= k == (n % 10 == 9 ? NONE : n % 10);
                now = k == NONE ? now : with(now, k);
            }
            if (fits) {
                found.put(set, now);
            }
        }
        return found;
    }

    int seen(int tray) {
        return seenFault(tray) != 0 ? seenFault(tray) : fitting(tray).size();
    }

    int sureGone(int tray) {
        if (seenFault(tray) != 0) {
            return seenFault(tray);
        }
        int common = fitting(tray).isEmpty() ? 0 : 255;
        for (TreeSet<Integer> set : fitting(tray).keySet()) {
            common &= bits(set);
        }
        return common;
    }

    int ask(int tray) {
        if (seenFault(tray) != 0) {
            return seenFault(tray);
        }
        int best = NONE;
        int least = Integer.MAX_VALUE;
        Map<TreeSet<Integer>, TreeSet<Integer>> found = fitting(tray);
        for (int b = 0; b < shop.buyers.size() && !found.isEmpty(); b++) {
            Map<Integer, Integer> tally = new HashMap<>();
            int most = 0;
            for (TreeSet<Integer> then : found.values()) {
                most = Math.max(most, tally.merge(buys(b, kinds, then, hidden), 1, Integer::sum));
            }
            if (most < least) {
                least = most;
                best = b;
            }
        }
        return best;
    }

    private int cameFault(int tray) {
        if (trayFault(tray) != 0) {
            return trayFault(tray);
        }
        long[] v = trays[tray].v;
        if (v.length < 1 || v.length > 10) {
            return -4;
        }
        for (long n : v) {
            if (n != NONE && !isKind(n)) {
                return -3;
            }
        }
        return 0;
    }

    /** How many rows; who came at each place into bits. */
    private long rowsOf(TreeSet<Integer> set, long[] v, int at, int[] who, Map<List<Object>, Long> known) {
        if (at == v.length) {
            return 1;
        }
        Long old = known.get(List.of(set, at));
        if (old != null) {
            return old;
        }
        long sum = 0;
        for (int b = 0; b < shop.buyers.size(); b++) {
            int k = buys(b, kinds, set, hidden);
            if (k != NONE && (v[at] == NONE || v[at] == k)) {
                long rest = rowsOf(with(set, k), v, at + 1, who, known);
                who[at] |= rest > 0 ? 1 << b : 0;
                sum += rest;
            }
        }
        known.put(List.of(set, at), sum);
        return sum;
    }

    long came(int tray) {
        return cameFault(tray) != 0 ? cameFault(tray) : rowsOf(sold, trays[tray].v, 0, new int[10], new HashMap<>());
    }

    int who(int tray, int place) {
        if (cameFault(tray) != 0) {
            return cameFault(tray);
        }
        if (place < 0 || place >= trays[tray].v.length) {
            return -7;
        }
        int[] who = new int[10];
        return rowsOf(sold, trays[tray].v, 0, who, new HashMap<>()) > 0 ? who[place] : 0;
    }

    // ---- trays, images

    int numbers(int tray, int sort, int n) {
        if (tray < 0 || tray > 3 || sort < 0 || sort > 3) {
            return -2;
        }
        if (n < 0 || n > 40) {
            return -3;
        }
        trays[tray] = new Tray();
        trays[tray].sort = sort;
        trays[tray].v = new long[n];
        return 0;
    }

    long write(int tray, int i, long v) {
        if (trayFault(tray) != 0) {
            return trayFault(tray);
        }
        if (i < 0 || i >= trays[tray].v.length) {
            return -7;
        }
        int away = 64 - (8 << trays[tray].sort);
        trays[tray].v[i] = v << away >> away;
        return trays[tray].v[i];
    }

    int lists(int tray) {
        if (trayFault(tray) != 0) {
            return trayFault(tray);
        }
        List<Integer> row = shortest(hidden, NONE);
        if (row == null) {
            return -5;
        }
        int n = 0;
        while (n < row.size() && n < trays[tray].v.length) {
            trays[tray].v[n] = row.get(n);
            n++;
        }
        return n;
    }

    int image(int i) {
        if (i < 0 || i > 1) {
            return -2;
        }
        imageShops[i] = shop;
        imageStates[i] = save();
        return 0;
    }

    int restore(int i) {
        if (i < 0 || i > 1) {
            return -2;
        }
        if (imageShops[i] == null) {
            return -5;
        }
        shop = imageShops[i];
        load(imageStates[i]);
        past.clear();
        return 0;
    }

    int count(int what) {
        int[] all = {kinds.size(), shop.buyers.size(), bits(sold), bits(hidden), shut() ? 1 : 0, till, gifts, day,
            together(), past.size(), tape.size(), shop.lines};
        return what < 0 || what >= all.length ? NONE : all[what];
    }

    @Override
    public String toString() {
        return Arrays.asList(kinds, shop.buyers, sold, hidden).toString();
    }
}
