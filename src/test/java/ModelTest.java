import java.util.ArrayList;
import java.util.List;
import java.util.TreeMap;

/** Promises 1 to 18: long runs of calls, made by a fixed sequence of numbers, against Model. */
public final class ModelTest {
    private static final int RUNS = 1000;
    private static final int CALLS = 512;

    private final ObjectCore x = new ObjectCore();
    private final Model model = new Model();
    private final List<String> told = new ArrayList<>();
    private final boolean wild;
    private final boolean thrifty;
    private long seed;
    private boolean wrong;

    /** How often each instruction was added, and each end came, so that no run passes by doing nothing. */
    private static final TreeMap<String, Integer> seen = new TreeMap<>();

    private ModelTest(int run) {
        seed = run * 7919L + 17;
        wild = run % 4 == 3;
        thrifty = run % 3 == 2;
    }

    public static void main(String[] args) {
        int runs = args.length > 1 ? Integer.parseInt(args[1]) : RUNS;
        for (int run = 0; run < runs; run++) {
            ModelTest test = new ModelTest(run);
            if (!test.passes()) {
                System.out.println("run " + run + ":");
                for (String line : test.told) {
                    System.out.println("  " + line);
                }
                System.exit(1);
            }
        }
        System.out.println("ModelTest: " + runs + " runs as the model; " + seen);
        String[] ends = {"call 0", "call 1", "call 2", "get 0", "get 1", "get 2", "put 0", "put 1", "put 2",
            "define -2", "define -1", "define 0", "define 1", "accessor -1", "accessor 0", "accessor 1",
            "make -2", "make -1", "add -2", "add -1", "remove 0", "remove 1", "FRAMES 6", "ACTIVATIONS 24"};
        for (String end : ends) {
            if (!seen.containsKey(end)) {
                System.out.println("never seen: " + end);
                System.exit(1);
            }
        }
    }

    private int below(int bound) {
        seed = seed * 6364136223846793005L + 1442695040888963407L;
        return (int) ((seed >>> 33) % bound);
    }

    private int pick(int... choices) {
        return choices[below(choices.length)];
    }

    private void due(String call, long got, long want) {
        told.add(call + " answered " + got);
        if (got != want) {
            wrong = true;
            told.add("  the model answers " + want);
        }
    }

    private void count(String what) {
        seen.merge(what, 1, Integer::sum);
    }

    private boolean passes() {
        writeCodes();
        furnish();
        for (int i = 0; i < CALLS && !wrong; i++) {
            step();
            if (i % 16 == 15) {
                compareAll();
            }
        }
        compareAll();
        return !wrong;
    }

    private void writeCodes() {
        for (int code = 0; code < 8; code++) {
            writeCode(code);
        }
    }

    private void writeCode(int code) {
        boolean strict = below(2) == 0;
        due("code(" + code + ", " + strict + ")", x.code(code, strict), model.code(code, strict));
        if (below(3) == 0) {
            addNamed(code, "TRY", 8 + below(17), 0);
        }
        int lines = 2 + below(10);
        for (int line = 0; line < lines; line++) {
            writeSome(code);
        }
    }

    private void add(int code, int op, int a, int b) {
        long want = model.add(code, op, a, b);
        due("add(" + code + ", " + op + ", " + a + ", " + b + ")", x.add(code, op, a, b), want);
        count("add " + Math.min(want, 1));
    }

    private void addNamed(int code, String name, int a, int b) {
        add(code, Asm.NAMES.indexOf(name), a, b);
    }

    /** Pushes an OBJECT ('o'), a FUNCTION ('f'), a NUMBER ('n'), a KEY ('k') or anything, mostly. */
    private void push(int code, char wanted) {
        char kind = below(10) == 0 ? "ofnka".charAt(below(5)) : wanted;
        switch (kind) {
            case 'o':
                switch (below(thrifty ? 20 : 10)) {
                    case 0: addNamed(code, "OBJECT", 0, 0); break;
                    case 1: addNamed(code, "ARRAY", 0, 0); break;
                    case 2: addNamed(code, "VAR", below(4), below(4)); break;
                    case 3: case 4: case 5: addNamed(code, "VAR", 0, below(2)); break;
                    default: addNamed(code, "THIS", 0, 0); break;
                }
                break;
            case 'f':
                switch (below(thrifty ? 20 : 10)) {
                    case 0: addNamed(code, "FUNCTION", below(8), 0); break;
                    case 1: addNamed(code, "VAR", below(4), below(4)); break;
                    case 2: addNamed(code, "VAR", 1, 0); break;
                    default: addNamed(code, "VAR", 0, 0); break;
                }
                break;
            case 'n': addNamed(code, "NUMBER", pick(0, 1, 2, 5, 16, 17, 31, -1, Integer.MAX_VALUE), 0); break;
            case 'k': addNamed(code, "NUMBER", below(12) == 0 ? pick(-1, 32) : someKey(), 0); break;
            default:
                switch (below(4)) {
                    case 0: addNamed(code, "SPECIAL", below(6), 0); break;
                    case 1: addNamed(code, "VAR", below(4), below(4)); break;
                    default: push(code, "ofn".charAt(below(3))); break;
                }
                break;
        }
    }

    private int someKey() {
        return below(3) == 0 ? below(32) : pick(0, 1, 2, 3, 15, 16, 17, 17, 20, 21);
    }

    /** What an instruction pops, in the order in which it is pushed. */
    private static String pops(String name, int count) {
        switch (name) {
            case "PUT": return "oa";
            case "GETAT": return "ok";
            case "PUTAT": return "oka";
            case "ADD": case "SUB": case "LESS": return "nn";
            case "SAME": case "SWAP": return "aa";
            case "IS": return "of";
            case "GET": case "DELETE": case "HAS": case "SEAL": return "o";
            case "OF": case "DUP": case "SET": return "a";
            case "CALL": return "fo" + "faaa".substring(0, count);
            case "NEW": return "f" + "faaa".substring(0, count);
            case "GIVE": case "THROW": case "IF": return "a";
            default: return "";
        }
    }

    /** An instruction, mostly with what it pops pushed before. */
    private void writeSome(int code) {
        if (wild && below(6) == 0) {
            add(code, below(34) - 1, below(40) - 2, below(6) - 1);
            return;
        }
        int op = below(32);
        String name = Asm.NAMES.get(op);
        boolean rare = List.of("THROW", "GIVE", "SEAL", "FUNCTION", "OBJECT", "ARRAY", "JUMP").contains(name);
        if (rare && below(2) == 0) {
            name = List.of("CALL", "CALL", "NEW", "GET", "PUT", "GETAT", "PUTAT").get(below(7));
            op = Asm.NAMES.indexOf(name);
        }
        int count = below(5);
        String pops = pops(name, count);
        if (below(6) != 0) {
            for (int i = 0; i < pops.length(); i++) {
                push(code, pops.charAt(i));
            }
        }
        int a = name.equals("NUMBER") ? below(20) : name.equals("SPECIAL") ? below(6)
                : List.of("VAR", "SET").contains(name) ? below(4)
                : List.of("GET", "PUT", "DELETE", "HAS").contains(name) ? someKey()
                : name.equals("ARRAY") ? below(5) : name.equals("FUNCTION") ? below(8)
                : List.of("CALL", "NEW").contains(name) ? count
                : List.of("TRY", "JUMP", "IF").contains(name) ? below(25)
                : name.equals("SEAL") ? below(3) : below(9) - 4;
        add(code, op, a, below(4));
    }

    /** OBJECTS that are bound up with each other, for CODES to find. */
    private void furnish() {
        for (int code = 0; code < (thrifty ? 1 : 8); code++) {
            make(2, below(8));
        }
        for (int i = 0; i < 4 && !thrifty; i++) {
            make(below(2), below(3));
        }
        int objects = model.state(0);
        for (int i = 0; i < 8; i++) {
            define(below(objects), someKey(), someValue(), pick(127, 127, 125, 120, 64 + below(64)));
            accessor(below(objects), someKey(), someFunction(), someFunction(), pick(63, 9, 1, 8, below(64)));
        }
    }

    private int someFunction() {
        return thrifty ? 3 : 3 + below(8);
    }

    private int someObject() {
        return wild && below(12) == 0 ? pick(-1, 32, 31, -2, Integer.MAX_VALUE) : below(model.state(0));
    }

    private long someValue() {
        if (wild && below(12) == 0) {
            long[] odd = {Due.object(31), Due.object(32), Due.RANGE + 1, 1L << 31, Long.MIN_VALUE, Due.object(-1)};
            return odd[below(odd.length)];
        }
        switch (below(5)) {
            case 0: return pick(0, 1, 2, 3, 15, 16, 17, -1, Integer.MIN_VALUE);
            case 1: return Due.UNDEFINED + below(6);
            case 2: return Due.object(someFunction());
            default: return Due.object(below(model.state(0)));
        }
    }

    private int anyKey() {
        return wild && below(16) == 0 ? pick(-1, 32, 99) : someKey();
    }

    private void make(int kind, int a) {
        long want = model.make(kind, a);
        due("make(" + kind + ", " + a + ")", x.make(kind, a), want);
        count("make " + Math.min(want, 0));
    }

    private void define(int object, int key, long value, int flags) {
        long want = model.define(object, key, value, flags);
        due("define(" + object + ", " + key + ", " + value + ", " + flags + ")", x.define(object, key, value, flags), want);
        count("define " + want);
    }

    private void accessor(int object, int key, int getter, int setter, int flags) {
        long want = model.accessor(object, key, getter, setter, flags);
        due("accessor(" + object + ", " + key + ", " + getter + ", " + setter + ", " + flags + ")",
                x.accessor(object, key, getter, setter, flags), want);
        count("accessor " + want);
    }

    private void ended(String call, String name, int got, int want) {
        due(call, got, want);
        count(name + " " + want);
        due("result()", x.result(), model.result());
        for (int what = 0; what < 4; what++) {
            due("state(" + what + ")", x.state(what), model.state(what));
        }
        count("FRAMES " + model.state(3));
        count("ACTIVATIONS " + model.state(1));
    }

    private void step() {
        int object = someObject();
        int key = anyKey();
        long value = someValue();
        switch (below(16)) {
            case 0: case 1: case 2: case 3: {
                int function = below(5) == 0 ? object : someFunction();
                if (below(3) != 0) {
                    value = Due.object(someFunction());
                }
                long self = below(4) == 0 ? someValue() : Due.object(below(model.state(0)));
                int want = model.call(function, self, value);
                ended("call(" + function + ", " + self + ", " + value + ")", "call", x.call(function, self, value), want);
                break;
            }
            case 4: case 5: {
                int want = model.get(object, key);
                ended("get(" + object + ", " + key + ")", "get", x.get(object, key), want);
                break;
            }
            case 6: case 7: {
                boolean strict = below(2) == 0;
                int want = model.put(object, key, value, strict);
                ended("put(" + object + ", " + key + ", " + value + ", " + strict + ")", "put",
                        x.put(object, key, value, strict), want);
                break;
            }
            case 8: case 9:
                define(object, key, value, wild && below(16) == 0 ? pick(-1, 128) : pick(127, below(128), 64));
                break;
            case 10: case 11:
                accessor(object, key, below(4) == 0 ? -1 : someFunction(),
                        below(4) == 0 ? -1 : wild ? someObject() : someFunction(),
                        wild && below(16) == 0 ? pick(-1, 64) : below(64));
                break;
            case 12: {
                int want = model.remove(object, key);
                due("remove(" + object + ", " + key + ")", x.remove(object, key), want);
                count("remove " + want);
                break;
            }
            case 13:
                if (below(3) == 0) {
                    make(wild ? below(5) - 1 : below(3), wild ? below(36) - 2 : below(3));
                } else {
                    compareOne(object, key, below(7) - 1);
                }
                break;
            case 14:
                if (below(6) == 0) {
                    int how = below(wild ? 5 : 3) - (wild ? 1 : 0);
                    due("seal(" + object + ", " + how + ")", x.seal(object, how) ? 1 : 0, model.seal(object, how) ? 1 : 0);
                } else {
                    due("each(" + object + ", " + key + ")", x.each(object, key), model.each(object, key));
                }
                break;
            default:
                rarely();
                break;
        }
    }

    private void rarely() {
        int which = below(24);
        boolean crowded = !thrifty && model.state(0) > 30 && below(3) == 0;
        if (which == 0 || crowded) {
            due("clear()", x.clear(), model.clear());
            furnish();
        } else if (which < 3) {
            writeCode(below(8));
        } else if (which < 5) {
            add(below(10) - 1, below(32), below(5), below(4));
        } else {
            int what = below(7) - 1;
            due("state(" + what + ")", x.state(what), model.state(what));
        }
    }

    private void compareOne(int object, int key, int what) {
        due("own(" + object + ", " + key + ", " + what + ")", x.own(object, key, what), model.own(object, key, what));
        due("of(" + object + ", " + what + ")", x.of(object, what), model.of(object, what));
    }

    /** Tells only what differs: it is asked too often to tell all. */
    private void compareAll() {
        for (int object = 0; object < model.state(0); object++) {
            for (int what = 0; what < 5; what++) {
                for (int key = 0; key < 32; key++) {
                    if (x.own(object, key, what) != model.own(object, key, what)) {
                        compareOne(object, key, what);
                    }
                }
                if (x.of(object, what) != model.of(object, what)) {
                    compareOne(object, 0, what);
                }
            }
            for (int k = 0; k < 3; k++) {
                int key = below(8);
                if (x.each(object, key) != model.each(object, key)) {
                    due("each(" + object + ", " + key + ")", x.each(object, key), model.each(object, key));
                }
            }
        }
    }
}
