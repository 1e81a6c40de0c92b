import java.lang.reflect.InvocationTargetException;
import java.lang.reflect.Method;
import java.util.ArrayList;
import java.util.List;
import java.util.Random;

/** Runs of drawn calls (the same every time) on AimFerry and on FerryModel, whose answers must be alike. */
public final class ModelTest {
    private static final int CALLS = 512;

    private final Random random;
    private final AimFerry ferry = new AimFerry();
    private final FerryModel model = new FerryModel();
    private final List<String> told = new ArrayList<>();
    private int calls = 0;
    private boolean wrong = false;

    private ModelTest(long seed) {
        random = new Random(seed);
    }

    public static void main(String[] args) throws Exception {
        int runs = args.length > 0 ? Integer.parseInt(args[0]) : 120;
        long seed = args.length > 1 ? Long.parseLong(args[1]) : 1;
        int bad = 0;
        for (int run = 0; run < runs && bad < 5; run++) {
            ModelTest test = new ModelTest(seed * 1000003 + run);
            test.run();
            bad += test.wrong ? 1 : 0;
        }
        System.out.println(bad == 0 ? "ModelTest: " + runs + " runs alike" : "ModelTest: " + bad + " runs differ");
        if (bad != 0) {
            System.exit(1);
        }
    }

    private void run() throws Exception {
        boolean early = random.nextInt(4) == 0;
        if (!early) {
            tellRules(random.nextInt(4));
            tellCrossing();
        }
        while (calls < CALLS && !wrong) {
            step();
        }
    }

    private void step() throws Exception {
        int kind = random.nextInt(100);
        if (kind < 3) {
            tellCrossing();
        } else if (kind < 6) {
            tellRules(1);
        } else if (kind < 9) {
            wildText();
        } else if (kind < 10) {
            extremes();
        } else if (kind < 45) {
            doSomething();
        } else {
            askSomething();
        }
    }

    private int draw(int least, int most) {
        return least + random.nextInt(most - least + 1);
    }

    /** Mostly within what there is, at times just beyond it. */
    private int near(int least, int most) {
        int pick = random.nextInt(12);
        return pick == 0 ? least - 1 : pick == 1 ? most + 1 : draw(least, most);
    }

    private int aPerson() {
        return random.nextInt(10) == 0 ? draw(-1, 7) : draw(0, Math.max(0, model.count(3) - 1));
    }

    private int aSet() {
        int people = Math.max(0, model.count(3));
        int pick = random.nextInt(12);
        if (pick == 0) {
            return draw(-3, 300);
        }
        int set = random.nextInt(1 << people);
        if (pick < 8 && model.crossing != null) {
            set &= model.here();
        }
        return pick < 5 ? set & random.nextInt(1 << people) : set;
    }

    private void doSomething() throws Exception {
        switch (random.nextInt(16)) {
            case 0: case 1: case 2: case 3: case 4: call("trip"); break;
            case 5: case 6: case 7: call("cross", aSet()); break;
            case 8: call("toss", aPerson(), near(1, 12)); break;
            case 9: call("talk", aPerson(), near(1, 20)); break;
            case 10: case 11: call("undo"); break;
            case 12: call("force", near(-1, model.rules.size() - 1)); break;
            case 13: call("note", random.nextInt(8) == 0 ? -1 : near(0, random.nextBoolean() ? 60 : 6), aPerson(),
                    near(0, 1)); break;
            case 14: call(random.nextBoolean() ? "image" : "back", near(0, 3)); break;
            default: call("seed", random.nextInt()); break;
        }
        call("count", draw(5, 13));
    }

    private void askSomething() throws Exception {
        switch (random.nextInt(22)) {
            case 0: call("person", aPerson(), near(0, 3)); break;
            case 1: call("beside", aPerson(), aPerson()); break;
            case 2: call("ahead", aPerson(), near(0, random.nextBoolean() ? 100 : 9), near(0, 2)); break;
            case 3: call("over"); break;
            case 4: call("weight", aSet()); break;
            case 5: call("most", near(0, 1)); break;
            case 6: case 7: case 8: call("lighten", aSet()); break;
            case 9: call("fewest", near(0, 1)); break;
            case 10: call("row", near(-1, 6)); break;
            case 11: call("fare", aSet(), near(0, random.nextBoolean() ? 9999 : 30), aPerson()); break;
            case 12: call("stay", near(0, 1)); break;
            case 13: case 14: call("lies", aPerson(), aPerson(), near(1, 20), near(0, 1)); break;
            case 15: call("waits", aPerson()); break;
            case 16: call("soothe", near(1, 30), near(0, 1)); break;
            case 17: call("never"); break;
            case 18: call("ruled", near(0, 1)); break;
            case 19: call("look", near(0, 60), near(0, 1)); break;
            case 20: call("fogs", near(1, 10), near(1, random.nextBoolean() ? 60 : 9), near(0, 100), near(0, 1)); break;
            default: call("count", near(0, 15)); break;
        }
    }

    private void extremes() throws Exception {
        int[] some = {Integer.MIN_VALUE, Integer.MAX_VALUE, -2, 127, 128, 7, 31, 32, 63, 64, 1000, -127};
        String[] names = {"end", "force", "person", "beside", "cross", "toss", "talk", "ahead", "weight", "most",
            "lighten", "fewest", "row", "fare", "stay", "lies", "waits", "soothe", "note", "ruled", "look", "fogs",
            "count", "image", "back"};
        String name = names[random.nextInt(names.length)];
        int[] arguments = new int[find(FerryModel.class, name).getParameterCount()];
        for (int k = 0; k < arguments.length; k++) {
            arguments[k] = random.nextInt(3) == 0 ? draw(0, 1) : some[random.nextInt(some.length)];
        }
        call(name, arguments);
    }

    // ---------------------------------------------------------------- texts

    private String blanks() {
        return random.nextInt(9) == 0 ? " ".repeat(draw(1, 3)) : "";
    }

    private String number(int least, int most) {
        int n = random.nextInt(60) == 0 ? most + 1 : draw(least, most);
        String zeros = random.nextInt(40) == 0 ? "0".repeat(draw(1, 5)) : "";
        return (random.nextInt(30) == 0 ? "" : " ") + blanks() + zeros + n + blanks();
    }

    private String crossingText() {
        StringBuilder text = new StringBuilder("ferry");
        boolean heavy = random.nextInt(3) == 0;
        text.append(number(heavy ? 0 : 10, heavy ? 12 : 99)).append(number(1, 7)).append(number(0, 20));
        int people = random.nextInt(12) == 0 ? draw(0, 8) : draw(1, 7);
        for (int p = 0; p < people; p++) {
            text.append(';').append(blanks());
            if (random.nextInt(5) == 0) {
                text.append("cork").append(number(1, 20));
            } else {
                text.append("person").append(number(0, random.nextBoolean() ? 40 : 9)).append(number(0, 9));
            }
        }
        int more = draw(0, 12);
        for (int k = 0; k < more; k++) {
            if (random.nextBoolean() && people > 1) {
                int one = draw(0, people - 1);
                int other = random.nextInt(20) == 0 ? one : (one + draw(1, people - 1)) % people;
                text.append(";beside ").append(one).append(' ').append(other).append(number(0, 9));
            } else {
                text.append(";fog").append(number(0, random.nextBoolean() ? 8 : 60));
            }
        }
        return text.toString();
    }

    private String value() {
        String[] words = {"person", "aim", "grows", "light", "side", "hour", "weight", "room", "aboard", "waits",
            "more", "fog"};
        if (random.nextInt(3) == 0) {
            return "" + (random.nextInt(4) == 0 ? draw(0, 99999) : draw(0, 9));
        }
        return words[random.nextInt(words.length)];
    }

    private String sum() {
        StringBuilder text = new StringBuilder(value());
        int more = random.nextInt(5) == 0 ? draw(0, 6) : draw(0, 2);
        for (int k = 0; k < more; k++) {
            text.append(blanks()).append("+-*/%+-".charAt(random.nextInt(7))).append(blanks()).append(value());
        }
        return text.toString();
    }

    private String test(int depth) {
        int pick = random.nextInt(depth > 4 ? 3 : 8);
        switch (pick) {
            case 3: return "not " + test(depth + 1);
            case 4: return "[" + blanks() + test(depth + 1) + "]";
            case 5: return test(depth + 1) + " and " + test(depth + 1);
            case 6: return test(depth + 1) + " or " + test(depth + 1);
            default: return sum() + blanks() + new String[] {"<", "<=", "=", ">=", ">"}[random.nextInt(5)] + sum();
        }
    }

    private String ruleText() {
        StringBuilder text = new StringBuilder();
        int clauses = random.nextInt(20) == 0 ? draw(10, 14) : draw(1, 4);
        for (int k = 0; k < clauses; k++) {
            text.append(k == 0 ? "" : ";").append(blanks()).append("board ").append(sum());
            if (random.nextInt(3) != 0) {
                text.append(" if ").append(test(0));
            }
        }
        return text.toString();
    }

    private String spoilt(String text) {
        StringBuilder s = new StringBuilder(text);
        int times = draw(1, 2);
        for (int k = 0; k < times && s.length() > 0; k++) {
            int at = random.nextInt(s.length());
            String signs = " ;0123456789[]<>=+-*/%xnotaim\u00e9";
            char sign = signs.charAt(random.nextInt(signs.length()));
            switch (random.nextInt(4)) {
                case 0: s.deleteCharAt(at); break;
                case 1: s.insert(at, sign); break;
                case 2: s.setCharAt(at, sign); break;
                default: s.setLength(at); break;
            }
        }
        return s.toString();
    }

    /** Texts at the edges: many clauses, many parts, deep ones. */
    private String longText() {
        StringBuilder s = new StringBuilder();
        switch (random.nextInt(4)) {
            case 0:
                s.append("ferry 9 2 1");
                int more = draw(38, 41);
                for (int k = 0; k < more; k++) {
                    s.append(k % 9 == 8 ? ";cork 1" : ";fog ").append(k % 9 == 8 ? "" : k % 10);
                }
                return s.toString();
            case 1:
                s.append("board ").append("1+".repeat(draw(55, 61))).append("aim");
                return s.toString();
            case 2:
                s.append("board 1 if ");
                int deep = draw(8, 12);
                for (int k = 0; k < deep; k++) {
                    s.append(random.nextBoolean() ? "not " : "[");
                }
                s.append("aim>1").append("]".repeat(draw(0, 8)));
                return s.toString();
            default:
                s.append("board aim if 1<aim");
                int facts = draw(16, 20);
                for (int k = 0; k < facts; k++) {
                    s.append(random.nextBoolean() ? " and " : " or ").append("0<=more");
                }
                return s.toString();
        }
    }

    private void feed(String text) throws Exception {
        if (random.nextInt(30) != 0) {
            call("end", 0);
        }
        String cut = text.length() > 400 ? text.substring(0, 400) : text;
        int[] five = new int[5];
        for (int at = 0; at < cut.length(); at += 20) {
            for (int k = 0; k < 5; k++) {
                five[k] = 0;
                for (int b = 0; b < 4; b++) {
                    int place = at + 4 * k + b;
                    five[k] = five[k] << 8 | (place < cut.length() ? cut.charAt(place) : 0);
                }
            }
            call("feed", five.clone());
        }
        if (random.nextInt(30) != 0) {
            call("end", cut.length());
        }
        told.add("   text: " + cut);
    }

    private void tellCrossing() throws Exception {
        feed(random.nextInt(8) == 0 ? spoilt(crossingText()) : crossingText());
        call("ferry");
        call("count", draw(0, 15));
    }

    private void tellRules(int many) throws Exception {
        for (int k = 0; k < many; k++) {
            feed(random.nextInt(8) == 0 ? spoilt(ruleText()) : ruleText());
            call("rule");
            call("force", draw(-1, model.rules.size() - 1));
        }
    }

    private void wildText() throws Exception {
        String text = random.nextBoolean() ? longText() : spoilt(random.nextBoolean() ? crossingText() : ruleText());
        feed(random.nextInt(5) == 0 ? spoilt(text) : text);
        call(text.startsWith("f") == (random.nextInt(15) != 0) ? "ferry" : "rule");
        call("count", 15);
    }

    // ---------------------------------------------------------------- calls

    private static Method find(Class<?> type, String name) {
        for (Method method : type.getDeclaredMethods()) {
            boolean ints = method.getReturnType() == int.class;
            for (Class<?> parameter : method.getParameterTypes()) {
                ints &= parameter == int.class;
            }
            if (ints && method.getName().equals(name)) {
                return method;
            }
        }
        throw new IllegalStateException("no method " + name);
    }

    private void call(String name, int... arguments) throws Exception {
        if (calls >= CALLS || wrong) {
            return;
        }
        calls++;
        Object[] boxed = new Object[arguments.length];
        StringBuilder row = new StringBuilder(name).append('(');
        for (int k = 0; k < arguments.length; k++) {
            boxed[k] = arguments[k];
            row.append(k == 0 ? "" : ", ").append(arguments[k]);
        }
        row.append(')');
        int due = (Integer) find(FerryModel.class, name).invoke(model, boxed);
        int got;
        try {
            got = (Integer) find(AimFerry.class, name).invoke(ferry, boxed);
        } catch (InvocationTargetException e) {
            tell(row + " threw " + e.getCause());
            return;
        }
        told.add(row + " = " + due);
        if (got != due) {
            tell(row + " answered " + got + ", the model " + due);
        }
    }

    private void tell(String how) {
        wrong = true;
        System.out.println("after " + calls + " calls: " + how);
        for (int k = Math.max(0, told.size() - 60); k < told.size(); k++) {
            System.out.println("    " + told.get(k));
        }
    }
}
