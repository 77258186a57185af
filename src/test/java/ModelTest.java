import java.util.ArrayList;
import java.util.List;
import java.util.TreeMap;
import java.util.function.ToLongFunction;

/**
 * Promises 1 to 18: long runs of calls, made by a fixed sequence of numbers, against Model. Model alone decides how
 * a run goes on, so that it can be played again on further objects until all is looked at: an object is promised
 * for 512 calls only.
 */
public final class ModelTest {
    private static final int RUNS = 6000;
    private static final int CALLS = 512;

    private record Call(String text, ToLongFunction<ObjectCore> asked, long want) {
    }

    private final Model model = new Model();
    private final List<Call> calls = new ArrayList<>();
    private final List<Call> looks = new ArrayList<>();
    private final boolean wild;
    private final boolean thrifty;
    private long seed;

    /** How often each end came, so that no run passes by doing nothing. */
    private static final TreeMap<String, Integer> seen = new TreeMap<>();

    private ModelTest(int run) {
        seed = run * 7919L + 17;
        wild = run % 4 == 3;
        thrifty = run % 3 == 2;
    }

    public static void main(String[] args) {
        int runs = args.length > 1 ? Integer.parseInt(args[1]) : RUNS;
        for (int run = 0; run < runs; run++) {
            ModelTest test = new ModelTest(run);
            test.think();
            if (!test.passes()) {
                System.out.println("in run " + run);
                System.exit(1);
            }
        }
        System.out.println("ModelTest: " + runs + " runs as the model; " + seen);
        String[] ends = {"call 0", "call 1", "call 2", "get 0", "get 1", "get 2", "put 0", "put 1", "put 2",
            "define -2", "define -1", "define 0", "define 1", "accessor -1", "accessor 0", "accessor 1",
            "make -2", "make -1", "add -2", "add -1", "remove 0", "remove 1", "FRAMES 6", "ACTIVATIONS 24"};
        for (String end : ends) {
            if (!seen.containsKey(end)) {
                System.out.println("never seen: " + end);
                System.exit(1);
            }
        }
    }

    private int below(int bound) {
        seed = seed * 6364136223846793005L + 1442695040888963407L;
        return (int) ((seed >>> 33) % bound);
    }

    private int pick(int... choices) {
        return choices[below(choices.length)];
    }

    private void due(String text, long want, ToLongFunction<ObjectCore> asked) {
        calls.add(new Call(text, asked, want));
    }

    private void look(String text, long want, ToLongFunction<ObjectCore> asked) {
        looks.add(new Call(text, asked, want));
    }

    private void count(String what) {
        seen.merge(what, 1, Integer::sum);
    }

    private void think() {
        writeCodes();
        furnish();
        int length = calls.size() + below(440 - Math.min(calls.size(), 400));
        while (calls.size() < length) {
            step();
        }
        lookAtAll();
    }

    /** Plays the run on as many objects as looking at all of what comes of it takes. */
    private boolean passes() {
        int looked = 0;
        do {
            ObjectCore x = new ObjectCore();
            for (int i = 0; i < calls.size(); i++) {
                if (!holds(x, calls.get(i), i)) {
                    return false;
                }
            }
            int left = CALLS - calls.size();
            if (left <= 0) {
                System.out.println("a run of " + calls.size() + " calls: too many to look at what comes of it");
                return false;
            }
            for (int i = 0; i < left && looked < looks.size(); i++) {
                if (!holds(x, looks.get(looked), calls.size())) {
                    return false;
                }
                looked++;
            }
        } while (looked < looks.size());
        return true;
    }

    private boolean holds(ObjectCore x, Call call, int before) {
        long got = call.asked().applyAsLong(x);
        if (got == call.want()) {
            return true;
        }
        for (int i = 0; i < before; i++) {
            System.out.println("  " + calls.get(i).text() + " answered " + calls.get(i).want());
        }
        System.out.println("  " + call.text() + " answered " + got + ", the model answers " + call.want());
        return false;
    }

    private void writeCodes() {
        for (int code = 0; code < 8; code++) {
            writeCode(code);
        }
    }

    private void writeCode(int code) {
        boolean strict = below(2) == 0;
        due("code(" + code + ", " + strict + ")", model.code(code, strict), x -> x.code(code, strict));
        if (below(3) == 0) {
            addNamed(code, "TRY", 8 + below(17), 0);
        }
        // Short ones where much was written, so that calls are left for what they do.
        int lines = calls.size() > 200 ? 1 + below(2) : 2 + below(10);
        for (int line = 0; line < lines; line++) {
            writeSome(code);
        }
    }

    private void add(int code, int op, int a, int b) {
        long want = model.add(code, op, a, b);
        due("add(" + code + ", " + op + ", " + a + ", " + b + ")", want, x -> x.add(code, op, a, b));
        count("add " + Math.min(want, 1));
    }

    private void addNamed(int code, String name, int a, int b) {
        add(code, Asm.NAMES.indexOf(name), a, b);
    }

    /** Pushes an OBJECT ('o'), a FUNCTION ('f'), a NUMBER ('n'), a KEY ('k') or anything, mostly. */
    private void push(int code, char wanted) {
        char kind = below(10) == 0 ? "ofnka".charAt(below(5)) : wanted;
        switch (kind) {
            case 'o':
                switch (below(thrifty ? 20 : 10)) {
                    case 0: addNamed(code, "OBJECT", 0, 0); break;
                    case 1: addNamed(code, "ARRAY", 0, 0); break;
                    case 2: addNamed(code, "VAR", below(4), below(4)); break;
                    case 3: case 4: case 5: addNamed(code, "VAR", 0, below(2)); break;
                    default: addNamed(code, "THIS", 0, 0); break;
                }
                break;
            case 'f':
                switch (below(thrifty ? 20 : 10)) {
                    case 0: addNamed(code, "FUNCTION", below(8), 0); break;
                    case 1: addNamed(code, "VAR", below(4), below(4)); break;
                    case 2: addNamed(code, "VAR", 1, 0); break;
                    default: addNamed(code, "VAR", 0, 0); break;
                }
                break;
            case 'n': addNamed(code, "NUMBER", pick(0, 1, 2, 5, 16, 17, 31, -1, Integer.MAX_VALUE), 0); break;
            case 'k': addNamed(code, "NUMBER", below(12) == 0 ? pick(-1, 32) : someKey(), 0); break;
            default:
                switch (below(4)) {
                    case 0: addNamed(code, "SPECIAL", below(6), 0); break;
                    case 1: addNamed(code, "VAR", below(4), below(4)); break;
                    default: push(code, "ofn".charAt(below(3))); break;
                }
                break;
        }
    }

    private int someKey() {
        return below(3) == 0 ? below(32) : pick(0, 1, 2, 3, 15, 16, 17, 17, 20, 21);
    }

    /** What an instruction pops, in the order in which it is pushed. */
    private static String pops(String name, int count) {
        switch (name) {
            case "PUT": return "oa";
            case "GETAT": return "ok";
            case "PUTAT": return "oka";
            case "ADD": case "SUB": case "LESS": return "nn";
            case "SAME": case "SWAP": return "aa";
            case "IS": return "of";
            case "GET": case "DELETE": case "HAS": case "SEAL": return "o";
            case "OF": case "DUP": case "SET": return "a";
            case "CALL": return "fo" + "faaa".substring(0, count);
            case "NEW": return "f" + "faaa".substring(0, count);
            case "GIVE": case "THROW": case "IF": return "a";
            default: return "";
        }
    }

    /** An instruction, mostly with what it pops pushed before. */
    private void writeSome(int code) {
        if (wild && below(6) == 0) {
            add(code, below(34) - 1, below(40) - 2, below(6) - 1);
            return;
        }
        int op = below(32);
        String name = Asm.NAMES.get(op);
        boolean rare = List.of("THROW", "GIVE", "SEAL", "FUNCTION", "OBJECT", "ARRAY", "JUMP").contains(name);
        if (rare && below(2) == 0) {
            name = List.of("CALL", "CALL", "NEW", "GET", "PUT", "GETAT", "PUTAT").get(below(7));
            op = Asm.NAMES.indexOf(name);
        }
        int count = below(5);
        String pops = pops(name, count);
        if (below(6) != 0) {
            for (int i = 0; i < pops.length(); i++) {
                push(code, pops.charAt(i));
            }
        }
        int a = name.equals("NUMBER") ? below(20) : name.equals("SPECIAL") ? below(6)
                : List.of("VAR", "SET").contains(name) ? below(4)
                : List.of("GET", "PUT", "DELETE", "HAS").contains(name) ? someKey()
                : name.equals("ARRAY") ? below(5) : name.equals("FUNCTION") ? below(8)
                : List.of("CALL", "NEW").contains(name) ? count
                : List.of("TRY", "JUMP", "IF").contains(name) ? below(25)
                : name.equals("SEAL") ? below(3) : below(9) - 4;
        add(code, op, a, below(4));
    }

    /** OBJECTS that are bound up with each other, for CODES to find. */
    private void furnish() {
        for (int code = 0; code < (thrifty ? 1 : 8); code++) {
            make(2, below(8));
        }
        for (int i = 0; i < 4 && !thrifty; i++) {
            make(below(2), below(3));
        }
        int objects = model.state(0);
        for (int i = 0; i < 8; i++) {
            define(below(objects), someKey(), someValue(), pick(127, 127, 125, 120, 64 + below(64)));
            accessor(below(objects), someKey(), someFunction(), someFunction(), pick(63, 9, 1, 8, below(64)));
        }
    }

    private int someFunction() {
        return thrifty ? 3 : 3 + below(8);
    }

    private int someObject() {
        return wild && below(12) == 0 ? pick(-1, 32, 31, -2, Integer.MAX_VALUE) : below(model.state(0));
    }

    private long someValue() {
        if (wild && below(12) == 0) {
            long[] odd = {Due.object(31), Due.object(32), Due.RANGE + 1, 1L << 31, Long.MIN_VALUE, Due.object(-1)};
            return odd[below(odd.length)];
        }
        switch (below(5)) {
            case 0: return pick(0, 1, 2, 3, 15, 16, 17, -1, Integer.MIN_VALUE);
            case 1: return Due.UNDEFINED + below(6);
            case 2: return Due.object(someFunction());
            default: return Due.object(below(model.state(0)));
        }
    }

    private int anyKey() {
        return wild && below(16) == 0 ? pick(-1, 32, 99) : someKey();
    }

    private void make(int kind, int a) {
        long want = model.make(kind, a);
        due("make(" + kind + ", " + a + ")", want, x -> x.make(kind, a));
        count("make " + Math.min(want, 0));
    }

    private void define(int object, int key, long value, int flags) {
        long want = model.define(object, key, value, flags);
        due("define(" + object + ", " + key + ", " + value + ", " + flags + ")", want,
                x -> x.define(object, key, value, flags));
        count("define " + want);
    }

    private void accessor(int object, int key, int getter, int setter, int flags) {
        long want = model.accessor(object, key, getter, setter, flags);
        due("accessor(" + object + ", " + key + ", " + getter + ", " + setter + ", " + flags + ")", want,
                x -> x.accessor(object, key, getter, setter, flags));
        count("accessor " + want);
    }

    private void ended(String text, String name, int want, ToLongFunction<ObjectCore> asked) {
        due(text, want, asked);
        count(name + " " + want);
        due("result()", model.result(), ObjectCore::result);
        askState(below(4));
        count("FRAMES " + model.state(3));
        count("ACTIVATIONS " + model.state(1));
    }

    private void askState(int what) {
        due("state(" + what + ")", model.state(what), x -> x.state(what));
    }

    private void call(int function, long self, long argument) {
        int want = model.call(function, self, argument);
        ended("call(" + function + ", " + self + ", " + argument + ")", "call", want,
                x -> x.call(function, self, argument));
    }

    private void get(int object, int key) {
        int want = model.get(object, key);
        ended("get(" + object + ", " + key + ")", "get", want, x -> x.get(object, key));
    }

    private void put(int object, int key, long value, boolean strict) {
        int want = model.put(object, key, value, strict);
        ended("put(" + object + ", " + key + ", " + value + ", " + strict + ")", "put", want,
                x -> x.put(object, key, value, strict));
    }

    private void remove(int object, int key) {
        int want = model.remove(object, key);
        due("remove(" + object + ", " + key + ")", want, x -> x.remove(object, key));
        count("remove " + want);
    }

    private void seal(int object, int how) {
        due("seal(" + object + ", " + how + ")", model.seal(object, how) ? 1 : 0, x -> x.seal(object, how) ? 1 : 0);
    }

    private void step() {
        int object = someObject();
        int key = anyKey();
        long value = someValue();
        switch (below(16)) {
            case 0: case 1: case 2: case 3:
                call(below(5) == 0 ? object : someFunction(),
                        below(4) == 0 ? someValue() : Due.object(below(model.state(0))),
                        below(3) == 0 ? value : Due.object(someFunction()));
                break;
            case 4: case 5:
                get(object, key);
                break;
            case 6: case 7:
                put(object, key, value, below(2) == 0);
                break;
            case 8: case 9:
                define(object, key, value, wild && below(16) == 0 ? pick(-1, 128) : pick(127, below(128), 64));
                break;
            case 10: case 11:
                accessor(object, key, below(4) == 0 ? -1 : someFunction(),
                        below(4) == 0 ? -1 : wild ? someObject() : someFunction(),
                        wild && below(16) == 0 ? pick(-1, 64) : below(64));
                break;
            case 12:
                remove(object, key);
                break;
            case 13:
                if (below(3) == 0) {
                    make(wild ? below(5) - 1 : below(3), wild ? below(36) - 2 : below(3));
                } else {
                    askOne(object, key, below(7) - 1);
                }
                break;
            case 14:
                if (below(6) == 0) {
                    seal(object, wild ? below(5) - 1 : below(3));
                } else {
                    due("each(" + object + ", " + key + ")", model.each(object, key), x -> x.each(object, key));
                }
                break;
            default:
                rarely();
                break;
        }
    }

    private void rarely() {
        int which = below(24);
        boolean crowded = !thrifty && model.state(0) > 30 && below(3) == 0;
        if (which == 0 || crowded) {
            due("clear()", model.clear(), ObjectCore::clear);
            furnish();
        } else if (which < 3) {
            writeCode(below(8));
        } else if (which < 5) {
            add(below(10) - 1, below(32), below(5), below(4));
        } else {
            askState(below(7) - 1);
        }
    }

    private void askOne(int object, int key, int what) {
        due("own(" + object + ", " + key + ", " + what + ")", model.own(object, key, what), x -> x.own(object, key, what));
        due("of(" + object + ", " + what + ")", model.of(object, what), x -> x.of(object, what));
    }

    private void lookAtAll() {
        look("result()", model.result(), ObjectCore::result);
        for (int asked = -1; asked <= 4; asked++) {
            int what = asked;
            look("state(" + what + ")", model.state(what), x -> x.state(what));
        }
        for (int object = -1; object <= model.state(0); object++) {
            lookAtOne(object);
        }
    }

    private void lookAtOne(int object) {
        for (int asked = -1; asked <= 4; asked++) {
            int what = asked;
            look("of(" + object + ", " + what + ")", model.of(object, what), x -> x.of(object, what));
        }
        int any = below(34) - 1;
        for (int key = -1; key <= 32; key++) {
            long kind = model.own(object, key, 0);
            // How many PROPERTIES there are is asked above, so one that is too much cannot hide.
            if (kind == 1 || kind == 2 || key == any) {
                lookAtProperty(object, key);
            }
        }
        int most = below(6);
        for (int asked = -1; asked <= most; asked++) {
            int k = asked;
            look("each(" + object + ", " + k + ")", model.each(object, k), x -> x.each(object, k));
        }
    }

    private void lookAtProperty(int object, int key) {
        for (int asked = -1; asked <= 5; asked++) {
            int what = asked;
            look("own(" + object + ", " + key + ", " + what + ")", model.own(object, key, what),
                    x -> x.own(object, key, what));
        }
    }
}
