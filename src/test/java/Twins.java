import java.util.Map;
import java.util.TreeMap;

/** Objects that were made alike, of which one had a call more: whatever can be looked at must be the same on both. */
final class Twins {
    /** A call, with all its numbers. */
    interface Call {
        long on(OneOfEach x);
    }

    /** Makes an object, always the same. */
    interface Maker {
        OneOfEach make();
    }

    /** All that can be seen of an object in one way, as a text; what it looks at may be used up by it. */
    interface Look {
        String at(OneOfEach x);
    }

    private final Checks checks;
    private final Maker maker;
    private final Map<String, Look> looks = new TreeMap<>();
    private final Map<String, String> due = new TreeMap<>();

    Twins(Checks checks, Maker maker) {
        this.checks = checks;
        this.maker = maker;
        looks.put("the shop", Twins::shop);
        looks.put("questions", Twins::questions);
        looks.put("x", x -> "x=" + x.seed(0));
        looks.put("what can be undone", Twins::undone);
        looks.put("trays", Twins::trays);
        looks.put("sorts and lengths of trays", Twins::sorts);
        looks.put("images", Twins::images);
        looks.put("the tape", Twins::tape);
        looks.put("the fault", x -> "fault(0)=" + x.fault(0) + " fault(1)=" + x.fault(1));
        for (Map.Entry<String, Look> look : looks.entrySet()) {
            due.put(look.getKey(), look.getValue().at(maker.make()));
        }
    }

    /** The call answers so, and changes nothing. */
    void unchanged(String call, Call done, long answer) {
        checks.due(call, done.on(maker.make()), answer);
        unchanged(call, done);
    }

    void unchanged(String call, Call done) {
        unchangedBut("", call, done);
    }

    /** The call changes nothing but, perhaps, what is named here. */
    void unchangedBut(String but, String call, Call done) {
        for (Map.Entry<String, Look> look : looks.entrySet()) {
            if (!but.contains(look.getKey())) {
                OneOfEach x = maker.make();
                done.on(x);
                checks.same(look.getKey() + " behind " + call + ":", look.getValue().at(x), due.get(look.getKey()));
            }
        }
    }

    // ---- looks: each takes fewer than 512 calls with those that make the object

    private static final class Told {
        private final StringBuilder text = new StringBuilder();

        void tell(String call, long answer) {
            text.append(call).append('=').append(answer).append(' ');
        }
    }

    static String shop(OneOfEach x) {
        Told told = new Told();
        counts(told, x);
        for (int b = 0; b < x.count(1); b++) {
            for (int what = 0; what < 5; what++) {
                told.tell("buyer(" + b + "," + what + ")", x.buyer(b, what));
            }
            for (int k = 0; k < x.count(0); k++) {
                told.tell("wants(" + b + "," + k + ")", x.wants(b, k));
            }
        }
        return told.text.toString();
    }

    private static void counts(Told told, OneOfEach x) {
        for (int what = 0; what < 12; what++) {
            if (what != 10) {
                told.tell("count(" + what + ")", x.count(what));
            }
        }
        for (int k = 0; k < x.count(0); k++) {
            for (int what = 0; what < 2; what++) {
                told.tell("kind(" + k + "," + what + ")", x.kind(k, what));
            }
        }
    }

    private static String questions(OneOfEach x) {
        Told told = new Told();
        told.tell("ending()", x.ending());
        told.tell("endings(3)", x.endings(3));
        told.tell("needed()", x.needed());
        told.tell("sellable()", x.sellable());
        told.tell("guards()", x.guards());
        told.tell("last()", x.last());
        told.tell("open(4,0)", x.open(4, 0));
        told.tell("open(4,1)", x.open(4, 1));
        told.tell("hides(2,3,1)", x.hides(2, 3, 1));
        told.tell("rota(1)", x.rota(1));
        told.tell("earns(3,0)", x.earns(3, 0));
        told.tell("bestPrice(0,2)", x.bestPrice(0, 2));
        return told.text.toString();
    }

    private static String undone(OneOfEach x) {
        Told told = new Told();
        for (int i = 0; i < 11; i++) {
            told.tell("undo(1)", x.undo(1));
            counts(told, x);
            told.tell("x", Checks.xOf(x));
        }
        return told.text.toString();
    }

    private static String trays(OneOfEach x) {
        Told told = new Told();
        for (int tray = 0; tray < 4; tray++) {
            for (int what = 0; what < 4; what++) {
                told.tell("judge(" + tray + "," + what + ")", x.judge(tray, what));
            }
            told.tell("seen(" + tray + ")", x.seen(tray));
            told.tell("sureGone(" + tray + ")", x.sureGone(tray));
            told.tell("ask(" + tray + ")", x.ask(tray));
            told.tell("came(" + tray + ")", x.came(tray));
            told.tell("who(" + tray + ",0)", x.who(tray, 0));
        }
        return told.text.toString();
    }

    private static String sorts(OneOfEach x) {
        Told told = new Told();
        for (int tray = 0; tray < 4; tray++) {
            for (int i = 0; i < 41; i++) {
                told.tell("write(" + tray + "," + i + ")", x.write(tray, i, 0x8899aabbccddeeffL));
            }
        }
        return told.text.toString();
    }

    private static String images(OneOfEach x) {
        Told told = new Told();
        for (int i = 0; i < 2; i++) {
            told.tell("restore(" + i + ")", x.restore(i));
            told.text.append(shop(x));
            told.tell("x", Checks.xOf(x));
        }
        return told.text.toString();
    }

    private static String tape(OneOfEach x) {
        Told told = new Told();
        told.tell("count(10)", x.count(10));
        told.tell("shop(all)", x.shop(x.count(10)));
        told.text.append(shop(x));
        return told.text.toString();
    }

    // ---- objects to begin with

    static final String TEXT = "shop;kind price 4 group 2;kind price 7;kind price 5 hidden;kind price 30 sold;"
        + "buyer purse 6 mind 3 odds 2;buyer purse 9;buyer purse 0 odds 0;lets : sold = 0;";

    /**
     * Open: 5 kinds, of which 0 and 3 were sold, 2 and 4 are hidden; 3 buyers, of whom the second alone would buy something.
     * 12 deeds were done (10 can be undone). Image 0 was made, image 1 wasn't.
     */
    static OneOfEach open() {
        OneOfEach x = Checks.shop(TEXT);
        x.gift(1);
        x.image(0);
        x.seed(42);
        x.days(2);
        x.undo(1);
        x.price(1, 8);
        x.visit(0);
        x.hide(2);
        x.hide(1);
        x.add(6, 5);
        x.hide(2);
        x.hide(1);
        x.hide(4);
        x.gift(0);
        x.gift(2);
        return laidOut(x);
    }

    /** Shut by its last deed: what isn't hidden was sold. */
    static OneOfEach shut() {
        OneOfEach x = Checks.shop(TEXT);
        x.image(0);
        x.days(1);
        x.gift(2);
        x.hide(1);
        return laidOut(x);
    }

    /** Eight kinds, all that there can be, of which one can be bought. */
    static OneOfEach full() {
        OneOfEach x = Checks.shop("shop;kind price 3;kind price 9;buyer purse 5;");
        for (int k = 2; k < 8; k++) {
            x.add(90 + k, k);
        }
        return laidOut(x);
    }

    /** Nothing was told. */
    static OneOfEach bare() {
        return laidOut(new OneOfEach());
    }

    /** Tray 0 has two deeds, tray 1 no numbers, tray 2 has 13, tray 3 is missing; a fault was read, a text is on the tape. */
    private static OneOfEach laidOut(OneOfEach x) {
        Checks.tray(x, 0, 1, 0);
        x.numbers(1, 1, 0);
        x.numbers(2, 0, 13);
        x.write(2, 3, 9);
        Checks.tell(x, "shop;kind price 100;");
        Checks.feed(x, "shop;kind price 12;buyer purse 13;wants : kind + 4;");
        return x;
    }
}
