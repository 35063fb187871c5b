import java.io.IOException;
import java.lang.reflect.Constructor;
import java.lang.reflect.Field;
import java.lang.reflect.Method;
import java.lang.reflect.Modifier;
import java.nio.file.Files;
import java.nio.file.Path;
import java.util.ArrayList;
import java.util.Arrays;
import java.util.List;
import java.util.Set;
import java.util.TreeSet;
import java.util.regex.Matcher;
import java.util.regex.Pattern;

/** The rules of LANGUAGE.md that can be looked at from outside. Argument: the path of the class's source. */
public final class RulesTest {
    private static final Checks CHECKS = new Checks("RulesTest");
    private static final String FACE = "feed/5 shop/1 fault/1 kind/2 buyer/2 wants/2 seed/1 visit/1 gift/1 hide/1 add/2 price/2 "
        + "days/1 undo/1 judge/2 perform/1 season/2 ending/0 endingBy/1 endings/1 needed/0 sellable/0 guards/0 last/0 open/2 "
        + "likely/1 shutsBy/3 closer/1 soldIn/3 hides/3 rota/1 earns/2 bestPrice/2 seen/1 sureGone/1 ask/1 came/1 who/2 "
        + "numbers/3 write/3 lists/1 image/1 restore/1 count/1";
    private static final Set<String> LONGS = Set.of("endings", "open", "shutsBy", "soldIn", "earns", "came", "write");

    private static void must(String what, boolean holds) {
        CHECKS.due(what, holds ? 1 : 0, 1);
    }

    public static void main(String[] args) throws IOException {
        face();
        classesInside();
        String source = Files.readString(Path.of(args.length > 0 ? args[0] : "src/main/java/OneOfEach.java"));
        source(source);
        room();
        CHECKS.end();
    }

    private static void face() {
        Set<String> face = new TreeSet<>(Arrays.asList(FACE.split(" ")));
        Set<String> found = new TreeSet<>();
        Set<String> names = new TreeSet<>();
        for (Method m : OneOfEach.class.getDeclaredMethods()) {
            if (Modifier.isPublic(m.getModifiers())) {
                found.add(m.getName() + "/" + m.getParameterCount());
                names.add(m.getName());
                must(m.getName() + " isn't static", !Modifier.isStatic(m.getModifiers()));
                must(m.getName() + "'s type", m.getReturnType() == (LONGS.contains(m.getName()) ? long.class : int.class));
            } else {
                must(m.getName() + " is private", Modifier.isPrivate(m.getModifiers()));
            }
        }
        must("the face is the document's: " + found, found.equals(face));
        for (Method m : OneOfEach.class.getDeclaredMethods()) {
            must("no private " + m.getName(), Modifier.isPublic(m.getModifiers()) || !names.contains(m.getName()));
        }
        for (Field f : OneOfEach.class.getDeclaredFields()) {
            must("field " + f.getName(), f.getName().equals("NONE") || Modifier.isPrivate(f.getModifiers()));
        }
        Constructor<?>[] constructors = OneOfEach.class.getDeclaredConstructors();
        must("one constructor", constructors.length == 1 && constructors[0].getParameterCount() == 0
            && Modifier.isPublic(constructors[0].getModifiers()));
        must("final and public", OneOfEach.class.getModifiers() == (Modifier.PUBLIC | Modifier.FINAL));
    }

    private static void classesInside() {
        List<Class<?>> classes = new ArrayList<>(Arrays.asList(OneOfEach.class.getDeclaredClasses()));
        must("at most twelve classes", classes.size() + 1 <= 12);
        for (Class<?> c : classes) {
            int m = c.getModifiers();
            must(c + " is static and hidden", Modifier.isStatic(m) && !Modifier.isPublic(m) && !Modifier.isProtected(m));
        }
        classes.add(OneOfEach.class);
        for (Class<?> c : classes) {
            int fields = 0;
            for (Field f : c.getDeclaredFields()) {
                fields += Modifier.isStatic(f.getModifiers()) ? 0 : 1;
                must(c + "." + f.getName() + ": static ones are final",
                    !Modifier.isStatic(f.getModifiers()) || Modifier.isFinal(f.getModifiers()));
            }
            must(c + " has at most twenty fields", fields <= 20);
            types(c);
            for (Method m : c.getDeclaredMethods()) {
                must(c + "." + m.getName() + " has a name of its own",
                    c == OneOfEach.class || !(" " + FACE).contains(" " + m.getName() + "/"));
                must(c + "." + m.getName() + " takes at most seven", m.getParameterCount() <= 7);
            }
        }
    }

    /** Rules 3, 5 and 11: what fields hold, what methods take and answer. */
    private static void types(Class<?> c) {
        for (Field f : c.getDeclaredFields()) {
            boolean constant = Modifier.isStatic(f.getModifiers());
            must(c + "." + f.getName() + " of " + f.getType(), constant ? isConstant(f.getType()) : isPlain(f.getType()));
        }
        for (Method m : c.getDeclaredMethods()) {
            must(c + "." + m.getName() + " answers " + m.getReturnType(), m.getReturnType() == void.class || isPlain(m.getReturnType()));
            for (Class<?> type : m.getParameterTypes()) {
                must(c + "." + m.getName() + " takes " + type, isPlain(type));
            }
        }
        for (Constructor<?> made : c.getDeclaredConstructors()) {
            must(c + " is made of at most seven", made.getParameterCount() <= 7);
        }
    }

    private static boolean isConstant(Class<?> type) {
        return type == int.class || type == long.class || type == boolean.class || type == char.class || type == String.class;
    }

    private static boolean isPlain(Class<?> type) {
        Class<?> part = type.isArray() ? type.getComponentType() : type;
        return part == int.class || part == long.class || part == boolean.class || part == String.class
            || part.getName().startsWith("OneOfEach$");
    }

    /** Rule 4: of the library only these. */
    private static void library(String code) {
        Set<String> allowed = Set.of("Arrays.fill", "Arrays.copyOf", "Arrays.copyOfRange", "System.arraycopy", "Integer.bitCount",
            "Math.max", "Math.min", "Math.abs", "Math.floorMod", "Math.floorDiv");
        Matcher calls = Pattern.compile("\\b(Math|Integer|Long|Arrays|System|String|Character|Byte|Short|List|Object)\\s*\\.\\s*(\\w+)").matcher(code);
        while (calls.find()) {
            String call = calls.group(1) + "." + calls.group(2);
            must("the library's " + call, allowed.contains(call));
        }
        must("no text is joined by +", !Pattern.compile("\"\" *\\+|\\+ *\"\"").matcher(code).find());
    }

    private static void source(String source) {
        String code = source.replaceAll("(?s)/\\*.*?\\*/", "").replaceAll("//[^\n]*", "").replaceAll("\"[^\"\n]*\"", "\"\"");
        for (String word : new String[] {"throw", "throws", "try", "catch", "synchronized", "assert", "var", "double", "float",
            "package", "new Object", "System", "Thread", "equals", "hashCode", "toString", "goto"}) {
            must("no " + word, !Pattern.compile("\\b" + word + "\\b").matcher(code).find());
        }
        must("no lambda, no method reference", !code.contains("->") && !code.contains("::"));
        must("nothing but plain signs", source.chars().allMatch(c -> c == 10 || c >= 32 && c < 127));
        Matcher imports = Pattern.compile("import ([^;]*);").matcher(code);
        while (imports.find()) {
            must("import " + imports.group(1), imports.group(1).equals("java.util.Arrays"));
        }
        library(code);
        lengths(code);
    }

    private static void lengths(String code) {
        String[] lines = code.split("\n");
        int begin = -1;
        String indent = "";
        for (int i = 0; i < lines.length; i++) {
            Matcher m = Pattern.compile("^( {4}| {8})\\S.*\\) \\{$").matcher(lines[i]);
            if (begin < 0 && m.matches()) {
                begin = i;
                indent = m.group(1);
            } else if (begin >= 0 && lines[i].equals(indent + "}")) {
                must("a method of " + (i - begin + 1) + " lines: " + lines[begin].trim(), i - begin + 1 <= 60);
                begin = -1;
            }
        }
    }

    /** After it has been made, an object makes no other: 512 of the dearest calls keep within the room. */
    private static void room() {
        com.sun.management.ThreadMXBean threads =
            (com.sun.management.ThreadMXBean) java.lang.management.ManagementFactory.getThreadMXBean();
        long id = Thread.currentThread().getId();
        String text = "shop;kind price 1;kind price 2;kind price 3;kind price 4;kind price 5;kind price 6;kind price 7;"
            + "kind price 8;buyer purse 9;buyer purse 8;buyer purse 7;buyer purse 6;buyer purse 5;buyer purse 4;"
            + "lets : sold = 0;wants : (who - kind) * (who - kind) + 9;";
        OneOfEach warm = Checks.shop(text);
        dearCalls(warm);
        long ahead = threads.getThreadAllocatedBytes(id);
        OneOfEach x = Checks.shop(text);
        long made = threads.getThreadAllocatedBytes(id) - ahead;
        ahead = threads.getThreadAllocatedBytes(id);
        for (int i = 0; i < 20; i++) {
            dearCalls(x);
        }
        long later = threads.getThreadAllocatedBytes(id) - ahead;
        must("an object is small: " + made + " bytes", made < 200000);
        must("calls make nothing: " + later + " bytes", later < 20000);
    }

    private static void dearCalls(OneOfEach x) {
        x.days(5);
        x.undo(1);
        x.season(3, 40);
        x.undo(1);
        x.image(0);
        x.restore(0);
        x.numbers(0, 3, 12);
        x.lists(0);
        x.judge(0, 0);
        x.seen(0);
        x.ask(0);
        x.numbers(0, 3, 10);
        x.came(0);
        x.who(0, 5);
        x.endings(15);
        x.needed();
        x.guards();
        x.open(10, 1);
        x.likely(99);
        x.hides(3, 6, 0);
        x.rota(0);
        x.bestPrice(0, 4);
        x.feed(1, 2, 3, 4, 5);
        x.shop(-1);
    }
}
