import java.lang.reflect.InvocationTargetException;
import java.lang.reflect.Method;
import java.nio.charset.StandardCharsets;
import java.util.ArrayList;
import java.util.Arrays;
import java.util.List;
import java.util.Random;

/** Random runs of calls on the class and on Model: the answers, and the exceptions, must be the same. */
public final class ModelTest {
    private static final String[] VALUES = {"heat", "nerve", "unlike", "many", "cut", "week"};
    private static final String[] ODD_TOKENS = {
        "person", "lawyer", "wed", "quarrel", "heats", "cuts", "or", "and", "not", "heat", "nerve", "x", "heatss",
        ";", "(", ")", "+", "-", "*", "/", "<", "=", "0", "7", "8", "9", "10", "99", "100", "1023", "1024", "9999",
        "00001", "12345", "#", "\t", "\u00e9", "A", "not not not not not not", "not not not not not not not",
        "((((((", "(((((", "))))))"};

    private static final int NO_BYTES = -1;

    private final Random random;
    private final WivesQuarrels real = new WivesQuarrels();
    private final Model model = new Model();
    private final List<String> told = new ArrayList<>();
    private int people = 0;

    private ModelTest(long seed) {
        random = new Random(seed);
    }

    public static void main(String[] args) {
        int runs = args.length > 0 ? Integer.parseInt(args[0]) : 1500;
        int from = args.length > 1 ? Integer.parseInt(args[1]) : 0;
        for (int seed = from; seed < from + runs; seed++) {
            ModelTest test = new ModelTest(seed);
            String wrong = seed % 3 == 0 ? test.runTexts() : test.runCalls();
            if (wrong != null) {
                test.told.forEach(System.out::println);
                System.out.println("run " + seed + ": " + wrong);
                System.exit(1);
            }
        }
        System.out.println(runs + " random runs are as the model's");
    }

    private int upTo(int n) {
        return random.nextInt(n);
    }

    private boolean chance(int oneOf) {
        return random.nextInt(oneOf) == 0;
    }

    // ---- calls on both

    private static String answer(Object object, String name, Object... args) {
        try {
            for (Method m : object.getClass().getMethods()) {
                if (m.getName().equals(name)) {
                    return String.valueOf(m.invoke(object, args));
                }
            }
        } catch (InvocationTargetException e) {
            return e.getCause().getClass().getName();
        } catch (IllegalAccessException e) {
            throw new AssertionError(e);
        }
        throw new AssertionError(name);
    }

    /** Null, or what is wrong. */
    private String call(String name, Object... args) {
        String got = answer(real, name, args);
        String due = answer(model, name, args);
        String line = name + Arrays.toString(args) + " answered " + got;
        told.add(line);
        people = model.count(0);
        return got.equals(due) ? null : line + ", due is " + due;
    }

    private String sameState() {
        String wrong = null;
        for (int what = 0; what <= 13 && wrong == null; what++) {
            wrong = quietly("count", what);
        }
        for (int p = 0; p < people && wrong == null; p++) {
            for (int what = 0; what <= 6 && wrong == null; what++) {
                wrong = quietly("person", p, what);
            }
            for (int o = 0; o < p && wrong == null; o++) {
                for (int what = 0; what <= 4 && wrong == null; what++) {
                    wrong = quietly("quarrel", p, o, what);
                }
            }
        }
        return wrong;
    }

    private String quietly(String name, Object... args) {
        String wrong = call(name, args);
        told.remove(told.size() - 1);
        return wrong;
    }

    private String feedTown(String text) {
        told.add("text " + text.replace('\n', '~'));
        byte[] bytes = text.getBytes(StandardCharsets.ISO_8859_1);
        int n = Math.min(700, bytes.length);
        byte[] padded = Arrays.copyOf(bytes, 720);
        Arrays.fill(padded, n, 720, (byte) ' ');
        String wrong = null;
        for (int at = 0; at < n && wrong == null; at += 20) {
            Object[] five = new Object[5];
            for (int i = 0; i < 5; i++) {
                int k = at + 4 * i;
                five[i] = (padded[k] & 255) << 24 | (padded[k + 1] & 255) << 16 | (padded[k + 2] & 255) << 8
                    | padded[k + 3] & 255;
            }
            wrong = quietly("feed", five);
        }
        wrong = wrong != null ? wrong : chance(4) ? call("count", 10) : null;
        wrong = wrong != null ? wrong : call("town", n);
        wrong = wrong != null ? wrong : call("fault");
        return wrong != null ? wrong : sameState();
    }

    // ---- texts

    private String blank() {
        return chance(6) ? "\n" : " ";
    }

    private String town(int most) {
        StringBuilder b = new StringBuilder();
        int n = chance(12) ? upTo(3) : 2 + upTo(most - 1);
        boolean earlyRules = chance(2);
        if (earlyRules) {
            rules(b);
        }
        for (int i = 0; i < n; i++) {
            b.append(chance(4) ? "lawyer " : "person ").append(upTo(10)).append(blank());
            b.append(chance(3) ? upTo(1024) : 1 << upTo(10)).append(";");
        }
        List<Integer> free = new ArrayList<>();
        for (int i = 0; i < n; i++) {
            free.add(i);
        }
        java.util.Collections.shuffle(free, random);
        for (int i = 0; i + 1 < n && chance(2); i += 2) {
            b.append("wed ").append(free.get(i)).append(blank()).append(free.get(i + 1)).append(";");
        }
        int oneOf = 1 + upTo(4);
        for (int i = 0; i < n; i++) {
            for (int j = 0; j < i; j++) {
                if (chance(oneOf) && b.length() < 640) {
                    b.append("quarrel ").append(chance(2) ? i + " " + j : j + " " + i).append(' ');
                    b.append(1 + upTo(chance(2) ? 99 : 12)).append(' ').append(upTo(10)).append(";");
                }
            }
        }
        if (!earlyRules) {
            rules(b);
        }
        return b.toString();
    }

    private void rules(StringBuilder b) {
        if (!chance(3)) {
            add(b, "heats " + (chance(2) ? shift() : expr(0)) + ";");
        }
        if (!chance(3)) {
            add(b, "cuts " + expr(0) + ";");
        }
    }

    private static void add(StringBuilder b, String line) {
        if (b.length() + line.length() <= 700) {
            b.append(line);
        }
    }

    /** A rule for HEAT that goes both ways. */
    private String shift() {
        String[] shifts = {"1-many", "(10<nerve)*2-1", "2-unlike", "nerve/4-2", "heat/9-week/3", "many-unlike",
            "cut-3", "0-9999", "nerve-9", "5-(week+nerve)/2", "not (heat<50)-2", "1-2*(many=2)", "9999*9999*9999"};
        return shifts[upTo(shifts.length)];
    }

    private String expr(int depth) {
        int kind = upTo(depth > 3 ? 3 : 12);
        switch (kind) {
            case 0:
                return String.valueOf(chance(5) ? upTo(10000) : upTo(30));
            case 1:
            case 2:
                return VALUES[upTo(6)];
            case 3:
                return "(" + expr(depth + 1) + ")";
            case 4:
                return "not " + expr(depth + 1);
            case 5:
                return expr(depth + 1) + " or " + expr(depth + 1);
            case 6:
                return expr(depth + 1) + " and " + expr(depth + 1);
            case 7:
                return part(depth) + "<" + part(depth);
            case 8:
                return part(depth) + "=" + part(depth);
            default:
                return part(depth) + "+-*/".charAt(upTo(4)) + part(depth);
        }
    }

    private String part(int depth) {
        return chance(3) ? "(" + expr(depth + 1) + ")" : chance(2) ? VALUES[upTo(6)] : String.valueOf(upTo(20));
    }

    private String spoilt(String text) {
        StringBuilder b = new StringBuilder(text);
        for (int k = upTo(3); k >= 0; k--) {
            int at = upTo(b.length() + 1);
            int end = Math.min(b.length(), at + upTo(4));
            switch (upTo(4)) {
                case 0:
                    b.delete(at, end);
                    break;
                case 1:
                    b.insert(at, ODD_TOKENS[upTo(ODD_TOKENS.length)]);
                    break;
                case 2:
                    b.replace(at, end, ODD_TOKENS[upTo(ODD_TOKENS.length)]);
                    break;
                default:
                    swapToken(b);
                    break;
            }
        }
        return b.toString();
    }

    private void swapToken(StringBuilder b) {
        List<Model.Token> tokens = Model.tokens(b.toString());
        Model.Token t = tokens.get(upTo(tokens.size()));
        b.replace(t.place(), t.place() + t.text().length(), " " + ODD_TOKENS[upTo(ODD_TOKENS.length)] + " ");
    }

    private String runTexts() {
        String wrong = null;
        for (int i = 0; i < 25 && wrong == null; i++) {
            String text = town(chance(3) ? 9 : 4);
            wrong = feedTown(chance(4) ? text : spoilt(text));
            if (wrong == null && chance(3)) {
                wrong = step();
            }
        }
        return wrong;
    }

    // ---- calls

    private int extreme() {
        int[] extremes = {Integer.MIN_VALUE, Integer.MAX_VALUE, -100, 1000, 32, 256, random.nextInt()};
        return extremes[upTo(extremes.length)];
    }

    private int someone() {
        return chance(150) ? extreme() : chance(40) ? upTo(10) - 1 : people > 0 ? upTo(people) : 0;
    }

    private int some(int last) {
        return chance(100) ? extreme() : chance(25) ? upTo(last + 5) - 2 : upTo(last + 1);
    }

    private String runCalls() {
        String wrong = feedTown(town(8));
        for (int i = 0; i < 160 && wrong == null; i++) {
            wrong = step();
        }
        return wrong;
    }

    private String step() {
        switch (upTo(3)) {
            case 0:
                String wrong = actStep();
                return wrong != null ? wrong : sameState();
            case 1:
                return askSmall();
            default:
                return askLarge();
        }
    }

    private String actStep() {
        switch (upTo(22)) {
            case 0:
            case 1:
                return call("weeks", chance(3) ? some(20) : 1 + upTo(3));
            case 2:
                return call("die", someone());
            case 3:
            case 4:
                return call("wed", someone(), someone());
            case 5:
            case 6:
                return call("settle", someone(), someone());
            case 7:
            case 8:
            case 9:
            case 10:
            case 11:
                return call("pick", someone(), someone(), some(99), some(9));
            case 12:
            case 13:
            case 14:
                return call("undo");
            case 15:
                return call("image");
            case 16:
                return call("restore");
            case 17:
                return chance(2) ? call("forget") : null;
            case 18:
                return chance(4) ? feedTown(chance(2) ? town(8) : spoilt(town(8))) : null;
            case 19:
                return call("town", chance(2) ? NO_BYTES : 1 + upTo(40));
            default:
                return see();
        }
    }

    /** Half of what is seen is so, with someone's other nerve. */
    private String see() {
        int a = someone();
        int b = someone();
        int weeks = some(20);
        int heat = some(99);
        if (!chance(3) && a >= 0 && b >= 0 && a < people && b < people && weeks >= 0 && weeks <= 60) {
            heat = Math.max(0, model.then(a, b, weeks, 0));
        }
        return call("see", a, b, weeks, heat);
    }

    private String askSmall() {
        switch (upTo(12)) {
            case 0:
                return call("count", some(13));
            case 1:
                return call("person", someone(), some(6));
            case 2:
                return call("quarrel", someone(), someone(), some(4));
            case 3:
                return call("friends", someone());
            case 4:
                return call("spared", someone());
            case 5:
                return call("match", someone());
            case 6:
                return call(new String[] {"ready", "mildest", "triples", "alone", "single", "cuts", "fault"}[upTo(7)]);
            case 7:
                return call("foes", someone(), someone());
            case 8:
                return call("word", some(9));
            case 9:
                return call("comesInto", someone(), some(1));
            case 10:
                return call("between", someone(), someone());
            default:
                return call("coldest", some(60));
        }
    }

    private String askLarge() {
        switch (upTo(11)) {
            case 0:
                return call("then", someone(), someone(), some(60), some(1));
            case 1:
                return call("over", someone(), someone());
            case 2:
                return call("peace");
            case 3:
                return call("later", some(60), some(2));
            case 4:
                return call("camps");
            case 5:
                return call("drawers");
            case 6:
                return call("deaths");
            case 7:
                return call("nerved", some(2));
            case 8:
                return call("look", some(1));
            case 9:
                return call("game", someone(), someone(), some(1));
            default:
                return call("years", random.nextInt(), some(60), some(2));
        }
    }
}
