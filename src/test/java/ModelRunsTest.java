import java.nio.charset.StandardCharsets;
import java.util.Random;

/** Long runs of calls by seeded draws, each answer held against the Model's. Arguments: how many runs, first seed. */
public final class ModelRunsTest {
    private static final Checks CHECKS = new Checks("ModelRunsTest");

    private final Random random;
    private final OneOfEach x = new OneOfEach();
    private final Model y = new Model();
    private final int run;

    private ModelRunsTest(int run) {
        this.run = run;
        this.random = new Random(run);
    }

    public static void main(String[] args) {
        int runs = args.length > 0 ? Integer.parseInt(args[0]) : 250;
        int first = args.length > 1 ? Integer.parseInt(args[1]) : 1;
        for (int i = first; i < first + runs; i++) {
            new ModelRunsTest(i).play();
            new ModelRunsTest(i).question();
        }
        CHECKS.end();
    }

    private int in(int least, int most) {
        return least + random.nextInt(most - least + 1);
    }

    private boolean seldom(int n) {
        return random.nextInt(n) == 0;
    }

    private void due(String call, long got, long want) {
        CHECKS.due("run " + run + ": " + call, got, want);
    }

    private void play() {
        int calls = 0;
        if (!seldom(10)) {
            calls += tell(text());
        }
        while (calls < 470) {
            calls += seldom(60) ? tell(seldom(2) ? text() : spoilt(text())) : call(in(0, 43));
            if (y.count(4) == 1 && !seldom(8)) {
                // Little can be asked of a shop that is shut.
                int n = Math.max(1, Math.min(y.count(9), in(1, 2)));
                due("undo(" + n + ")", x.undo(n), y.undo(n));
                calls++;
            }
        }
        for (int what = -1; what <= 12; what++) {
            due("count(" + what + ")", x.count(what), y.count(what));
        }
    }

    /** All questions of one shop whose laws hang on what is gone, so that hiding a kind tells. */
    private void question() {
        tell(linkedText());
        for (int i = in(0, 2); i > 0; i--) {
            deeds(4);
        }
        for (int which = 16; which < 34; which++) {
            questions(which);
            questions(which);
        }
        for (int m = 0; m <= 3; m++) {
            int n = in(1, 6);
            due("hides(" + m + ", " + n + ", 0)", x.hides(m, n, 0), y.hides(m, n, 0));
            due("hides(" + m + ", " + n + ", 1)", x.hides(m, n, 1), y.hides(m, n, 1));
        }
        due("rota(0)", x.rota(0), y.rota(0));
        due("rota(1)", x.rota(1), y.rota(1));
        for (int i = 0; i < 6; i++) {
            traysAndImages(in(40, 43));
        }
        for (int i = 0; i < 9; i++) {
            due("endingBy(" + i + ")", x.endingBy(i), y.endingBy(i));
        }
    }

    private String linkedText() {
        StringBuilder b = new StringBuilder("shop;");
        for (int i = in(2, 8); i > 0; i--) {
            b.append(kindLine(9));
        }
        for (int i = in(1, 6); i > 0; i--) {
            b.append("buyer purse ").append(in(6, 15)).append(" mind ").append(in(0, 4));
            b.append(" odds ").append(seldom(6) ? 0 : in(1, 9)).append(";");
        }
        String[] links = {"gone > kind - 2", "gone = kind", "group < gone + 3", "not gone < group", "who = kind",
            "mind > gone", "kind > who + gone", "gone * 2 > kind", "who + kind - gone < 4", "price > gone + 1", "1 = 1"};
        b.append("lets : ").append(seldom(3) ? "" : "sold = 0 and ").append("[ ").append(links[in(0, links.length - 1)]);
        b.append(seldom(2) ? " or " : " and ").append(links[in(0, links.length - 1)]).append(" ];");
        b.append("wants : ").append(lively()).append(" ;");
        return b.toString();
    }

    // ---- texts

    private String text() {
        StringBuilder b = new StringBuilder("shop;");
        int kinds = seldom(4) ? in(0, 2) : in(2, 8);
        int buyers = seldom(6) ? in(0, 1) : in(1, 6);
        int spread = in(1, 3) == 1 ? 99 : 12;
        for (int i = 0; i < kinds; i++) {
            b.append(kindLine(spread));
        }
        for (int i = 0; i < buyers; i++) {
            b.append("buyer purse ").append(seldom(3) ? in(0, 999) : in(spread / 3, spread + 5));
            b.append(seldom(2) ? " mind " + in(0, 9) : "").append(seldom(2) ? " odds " + in(0, 9) : "").append(";\n");
        }
        if (!seldom(5)) {
            b.append("wants : ").append(seldom(3) ? sum(in(0, 3)) : lively()).append(" ;");
        }
        if (!seldom(3)) {
            b.append("lets : ").append(seldom(2) ? "sold = 0" : truth(in(0, 3))).append(" ;");
        }
        return b.length() <= 900 ? b.toString() : "shop;";
    }

    /** Laws by which buyers like different kinds, and mostly new ones, so that there are endings. */
    private String lively() {
        String[] taste = {"(who + 1) * (kind + 2)", "(who - kind) * (who - kind)", "price * who + mind", "kind * mind",
            "(mind - group) * (gone - kind)", "purse - price * (gone + 1)", "price + group * 3 - gone"};
        return in(0, 60) + " + " + taste[in(0, taste.length - 1)] + " - sold * " + in(0, 40) + (seldom(2) ? " + " + atom(0) : "");
    }

    /** A number from 0 up to the count, seldom one beside. */
    private int near(int count) {
        return seldom(15) ? in(-2, count + 1) : in(0, Math.max(0, count - 1));
    }

    private String kindLine(int spread) {
        return "kind price " + in(1, spread) + (seldom(2) ? " group " + in(0, 9) : "") + (seldom(8) ? " sold" : "")
            + (seldom(8) ? " hidden" : "") + ";";
    }

    private String truth(int depth) {
        String t = unit(depth);
        while (seldom(3)) {
            t += (seldom(2) ? " and " : " or ") + unit(depth);
        }
        return t;
    }

    private String unit(int depth) {
        if (depth > 0 && seldom(4)) {
            return "not " + unit(depth - 1);
        }
        if (depth > 0 && seldom(4)) {
            return "[" + truth(depth - 1) + "]";
        }
        return sum(depth > 0 ? 1 : 0) + new String[] {" = ", "<", " > "}[in(0, 2)] + sum(0);
    }

    private String sum(int depth) {
        String s = term(depth);
        for (int i = 0; i < 3 && seldom(2); i++) {
            s += new String[] {" + ", " - ", "+"}[in(0, 2)] + term(depth);
        }
        return s;
    }

    private String term(int depth) {
        String s = atom(depth);
        for (int i = 0; i < 3 && seldom(3); i++) {
            s += " * " + atom(depth);
        }
        return s;
    }

    private String atom(int depth) {
        if (depth > 0 && seldom(3)) {
            return "(" + sum(depth - 1) + ")";
        }
        if (seldom(3)) {
            return "" + (seldom(4) ? in(0, 999) : in(0, 12));
        }
        return new String[] {"who", "purse", "mind", "kind", "price", "group", "gone", "sold"}[in(0, 7)];
    }

    private String spoilt(String text) {
        String[] pieces = {"shop", ";", "kind", "buyer purse 1;", "(", ")", "[", "]", "not ", "and", "1000", "100", "0", "A",
            "\t", ":", "=", " ", "purse", "price", "mind 10", "odds 9", "group", "sold", "wants : ((((((1)))))) ;",
            "lets : not not not [not [[1=1]]] ;", "\u00ff", "\u0000", "-", "*", "007", "salt"};
        String spoilt = text;
        for (int i = in(0, 2); i >= 0; i--) {
            int at = in(0, spoilt.length());
            String piece = seldom(4) ? "" : pieces[in(0, pieces.length - 1)];
            int end = Math.min(spoilt.length(), at + (seldom(2) ? 0 : in(1, 6)));
            spoilt = spoilt.substring(0, at) + piece + spoilt.substring(end);
        }
        return seldom(6) ? spoilt.substring(0, in(0, spoilt.length())) : spoilt;
    }

    private int tell(String text) {
        int[] ints = Checks.ints(text.getBytes(StandardCharsets.ISO_8859_1));
        for (int i = 0; i < ints.length; i += 5) {
            due("feed", x.feed(ints[i], ints[i + 1], ints[i + 2], ints[i + 3], ints[i + 4]),
                y.feed(ints[i], ints[i + 1], ints[i + 2], ints[i + 3], ints[i + 4]));
        }
        due("shop of " + text, x.shop(text.length()), y.shop(text.length()));
        for (int what = -1; what <= 2; what++) {
            due("fault(" + what + ") of " + text, x.fault(what), y.fault(what));
        }
        if (seldom(20)) {
            int n = in(-1, 1);
            due("shop(" + n + ")", x.shop(n), y.shop(n));
        }
        return ints.length / 5 + 6;
    }

    // ---- calls

    private int call(int which) {
        if (which < 16) {
            deeds(which);
        } else if (which < 34) {
            questions(which);
        } else {
            return traysAndImages(which);
        }
        return 1;
    }

    private void deeds(int which) {
        int b = near(y.count(1));
        int k = near(y.count(0));
        int what = near(5);
        switch (which) {
            case 0 -> due("kind(" + k + ", " + what + ")", x.kind(k, what), y.kind(k, what));
            case 1 -> due("buyer(" + b + ", " + what + ")", x.buyer(b, what), y.buyer(b, what));
            case 2 -> due("wants(" + b + ", " + k + ")", x.wants(b, k), y.wants(b, k));
            case 3 -> {
                int n = seldom(3) ? in(0, 1) : random.nextInt();
                due("seed(" + n + ")", x.seed(n), y.seed(n));
            }
            case 4, 5 -> due("visit(" + b + ")", x.visit(b), y.visit(b));
            case 6 -> due("gift(" + k + ")", x.gift(k), y.gift(k));
            case 7 -> due("hide(" + k + ")", x.hide(k), y.hide(k));
            case 8 -> {
                int p = in(0, 100);
                int g = in(-1, 10);
                due("add(" + p + ", " + g + ")", x.add(p, g), y.add(p, g));
            }
            case 9 -> {
                int p = seldom(3) ? in(0, 100) : in(1, 15);
                due("price(" + k + ", " + p + ")", x.price(k, p), y.price(k, p));
            }
            case 10 -> {
                int n = seldom(8) ? in(-1, 100) : in(1, 3);
                due("days(" + n + ")", x.days(n), y.days(n));
            }
            case 11, 12 -> {
                int n = in(0, 5);
                due("undo(" + n + ")", x.undo(n), y.undo(n));
            }
            case 13, 14 -> {
                int seed = random.nextInt();
                int times = in(0, seldom(4) ? 41 : 6);
                due("season(" + seed + ", " + times + ")", x.season(seed, times), y.season(seed, times));
            }
            default -> due("count(" + k + ")", x.count(k + 3), y.count(k + 3));
        }
    }

    private void questions(int which) {
        int b = near(y.count(1));
        int k = near(y.count(0));
        int n = near(11);
        int what = seldom(20) ? in(-1, 2) : in(0, 1);
        switch (which) {
            case 16 -> due("ending()", x.ending(), y.ending());
            case 17 -> due("endingBy(" + b + ")", x.endingBy(b), y.endingBy(b));
            case 18 -> due("endings(" + (n + 5) + ")", x.endings(n + 5), y.endings(n + 5));
            case 19 -> due("endings(" + n + ")", x.endings(n), y.endings(n));
            case 20 -> due("needed()", x.needed(), y.needed());
            case 21 -> due("sellable()", x.sellable(), y.sellable());
            case 22 -> due("guards()", x.guards(), y.guards());
            case 23 -> due("last()", x.last(), y.last());
            case 24 -> due("open(" + n + ", " + what + ")", x.open(n, what), y.open(n, what));
            case 25 -> {
                int m = seldom(4) ? in(-1, 101) : in(0, 10) * 10;
                due("likely(" + m + ")", x.likely(m), y.likely(m));
            }
            case 26 -> due("shutsBy(" + b + ", " + n + ", " + what + ")", x.shutsBy(b, n, what), y.shutsBy(b, n, what));
            case 27 -> due("closer(" + n + ")", x.closer(n), y.closer(n));
            case 28 -> due("soldIn(" + k + ", " + n + ", " + what + ")", x.soldIn(k, n, what), y.soldIn(k, n, what));
            case 29 -> {
                int m = near(4);
                int d = near(7);
                due("hides(" + m + ", " + d + ", " + what + ")", x.hides(m, d, what), y.hides(m, d, what));
            }
            case 30 -> due("rota(" + what + ")", x.rota(what), y.rota(what));
            case 31, 32 -> due("earns(" + n + ", " + what + ")", x.earns(n, what), y.earns(n, what));
            default -> {
                int d = near(5);
                if (seldom(3)) {
                    due("bestPrice(" + k + ", " + d + ")", x.bestPrice(k, d), y.bestPrice(k, d));
                }
            }
        }
    }

    private int traysAndImages(int which) {
        int tray = seldom(20) ? in(-1, 4) : in(0, 3);
        int i = in(-1, 2);
        switch (which) {
            case 34 -> due("perform(" + tray + ")", x.perform(tray), y.perform(tray));
            case 35 -> due("judge(" + tray + ", " + i + ")", x.judge(tray, i), y.judge(tray, i));
            case 36 -> due("lists(" + tray + ")", x.lists(tray), y.lists(tray));
            case 37 -> due("image(" + i + ")", x.image(i), y.image(i));
            case 38 -> due("restore(" + i + ")", x.restore(i), y.restore(i));
            case 39 -> {
                return fill(tray, 0) + 4 + judged(tray);
            }
            case 40, 41 -> {
                return fill(tray, 1) + 3 + sights(tray);
            }
            default -> {
                return fill(tray, 2) + 3 + goings(tray);
            }
        }
        return 1;
    }

    private int fill(int tray, int form) {
        int sort = seldom(20) ? in(-1, 4) : in(0, 3);
        int n = seldom(12) ? in(-1, 41) : seldom(5) ? in(0, 13) : in(1, 4);
        due("numbers(" + tray + ", " + sort + ", " + n + ")", x.numbers(tray, sort, n), y.numbers(tray, sort, n));
        for (int i = 0; i < n; i++) {
            long v = form == 0 ? deed() : form == 1 ? sight() : seldom(3) ? -1 : near(y.count(0));
            v = seldom(60) ? random.nextLong() : v;
            due("write(" + tray + ", " + i + ", " + v + ")", x.write(tray, i, v), y.write(tray, i, v));
        }
        if (form == 2 && seldom(2)) {
            likelyRow(tray, n);
        }
        return 2 * n + 1;
    }

    /** Kinds that can really go one behind the other from now on. */
    private void likelyRow(int tray, int n) {
        due("image(1)", x.image(1), y.image(1));
        for (int i = 0; i < n && i < 10; i++) {
            int k = y.visit(in(0, 5));
            long v = k < 0 || seldom(4) ? -1 : k;
            due("write(" + tray + ", " + i + ", " + v + ")", x.write(tray, i, v), y.write(tray, i, v));
        }
        due("restore(1)", x.restore(1), y.restore(1));
    }

    private long deed() {
        switch (in(0, 6)) {
            case 0:
                return -1;
            case 1:
                return in(98, 111);
            case 2:
                return in(198, 211);
            case 3:
                return in(990, 2005);
            default:
                return in(0, seldom(6) ? 12 : 5);
        }
    }

    /** Mostly what a buyer would buy now, so that some sets fit. */
    private long sight() {
        int b = in(0, Math.max(0, y.count(1) - (seldom(10) ? 0 : 1)));
        int k = seldom(2) ? y.buyer(b, 4) : seldom(4) ? 9 : near(y.count(0));
        return 10L * b + (k < 0 ? 9 : k);
    }

    private int judged(int tray) {
        for (int what = 0; what < 4; what++) {
            due("judge(" + tray + ", " + what + ")", x.judge(tray, what), y.judge(tray, what));
        }
        due("perform(" + tray + ")", x.perform(tray), y.perform(tray));
        return 1;
    }

    private int sights(int tray) {
        due("seen(" + tray + ")", x.seen(tray), y.seen(tray));
        due("sureGone(" + tray + ")", x.sureGone(tray), y.sureGone(tray));
        due("ask(" + tray + ")", x.ask(tray), y.ask(tray));
        return 0;
    }

    private int goings(int tray) {
        due("came(" + tray + ")", x.came(tray), y.came(tray));
        int place = in(-1, 4);
        due("who(" + tray + ", " + place + ")", x.who(tray, place), y.who(tray, place));
        due("who(" + tray + ", 0)", x.who(tray, 0), y.who(tray, 0));
        return 0;
    }
}
