import java.util.ArrayDeque;
import java.util.ArrayList;
import java.util.Arrays;
import java.util.Deque;
import java.util.HashSet;
import java.util.LinkedHashMap;
import java.util.List;
import java.util.Map;
import java.util.Set;

/**
 * The document once more, read on its own and written the other way: with Java's objects, exceptions and
 * recursion, for ModelTest to compare with ObjectCore.
 */
final class Model {
    private static final long UNDEFINED = Due.UNDEFINED, NULL = Due.NULL, FALSE = Due.FALSE, TRUE = Due.TRUE;
    private static final long TYPE = Due.TYPE, RANGE = Due.RANGE, FIRST = Due.object(0);
    private static final int LENGTH = 16, KIN = 17;

    private static final class Thrown extends Exception {
        private static final long serialVersionUID = 1;
        final long value;

        Thrown(long value) {
            super(null, null, false, false);
            this.value = value;
        }
    }

    private static final class TooLong extends Exception {
        private static final long serialVersionUID = 1;

        TooLong() {
            super(null, null, false, false);
        }
    }

    private static final class Property {
        boolean accessor, writable, enumerable, configurable;
        long value = UNDEFINED, getter = UNDEFINED, setter = UNDEFINED;
    }

    /** What is said of a PROPERTY; a null is not said. */
    private static final class Said {
        Long value, getter, setter;
        Boolean writable, enumerable, configurable;

        boolean data() {
            return value != null || writable != null;
        }

        boolean accessor() {
            return getter != null || setter != null;
        }

        static Said value(long value) {
            Said said = new Said();
            said.value = value;
            return said;
        }

        static Said allOn(long value) {
            Said said = value(value);
            said.writable = said.enumerable = said.configurable = true;
            return said;
        }
    }

    private static final class Thing {
        int kind, prototype, code;
        boolean extensible = true;
        Activation around;
        final Map<Integer, Property> properties = new LinkedHashMap<>();
    }

    private static final class Activation {
        final long[] variables = {UNDEFINED, UNDEFINED, UNDEFINED, UNDEFINED};
        Activation around;
        boolean kept;
    }

    private static final class Handler {
        int at, height;
    }

    private static final class Frame {
        long self;
        Activation activation;
        boolean strict;
        int next;
        final ArrayList<Long> stack = new ArrayList<>();
        final Deque<Handler> handlers = new ArrayDeque<>();

        void push(long value) throws Thrown {
            if (stack.size() == 10) {
                throw new Thrown(RANGE);
            }
            stack.add(value);
        }

        long pop() {
            return stack.isEmpty() ? UNDEFINED : stack.remove(stack.size() - 1);
        }

        long[] pop(int count) {
            long[] popped = new long[count];
            for (int i = count - 1; i >= 0; i--) {
                popped[i] = pop();
            }
            return popped;
        }
    }

    private final List<List<int[]>> codes = new ArrayList<>();
    private final boolean[] strict = new boolean[8];
    private final List<Thing> things = new ArrayList<>();
    private int activations, frames, begun, deepest;
    private long latest;

    Model() {
        for (int i = 0; i < 8; i++) {
            codes.add(new ArrayList<>());
        }
        reset();
    }

    private void reset() {
        things.clear();
        for (int i = 0; i < 3; i++) {
            Thing thing = new Thing();
            thing.prototype = i == 0 ? -1 : 0;
            things.add(thing);
        }
        activations = frames = begun = deepest = 0;
        latest = UNDEFINED;
    }

    // The public face

    int code(int code, boolean isStrict) {
        if (code < 0 || code > 7) {
            return -1;
        }
        int had = codes.get(code).size();
        codes.get(code).clear();
        strict[code] = isStrict;
        return had;
    }

    int add(int code, int op, int a, int b) {
        if (code < 0 || code > 7 || op < 0 || op > 31) {
            return -1;
        }
        Map<String, Integer> most = Map.ofEntries(Map.entry("SPECIAL", 5), Map.entry("VAR", 3), Map.entry("SET", 3),
                Map.entry("GET", 31), Map.entry("PUT", 31), Map.entry("DELETE", 31), Map.entry("HAS", 31),
                Map.entry("ARRAY", 4), Map.entry("FUNCTION", 7), Map.entry("CALL", 4), Map.entry("NEW", 4),
                Map.entry("TRY", 24), Map.entry("JUMP", 24), Map.entry("IF", 24), Map.entry("SEAL", 2));
        String name = Asm.NAMES.get(op);
        if (most.containsKey(name) && (a < 0 || a > most.get(name))) {
            return -1;
        }
        if ((name.equals("VAR") || name.equals("SET")) && (b < 0 || b > 3)) {
            return -1;
        }
        if (codes.get(code).size() == 24) {
            return -2;
        }
        codes.get(code).add(new int[] {op, a, b});
        return codes.get(code).size();
    }

    int make(int kind, int a) {
        boolean right = kind == 0 && (a == -1 || isObject(FIRST + a) && a >= 0)
                || kind == 1 && a >= 0 && a <= 16 || kind == 2 && a >= 0 && a <= 7;
        if (!right) {
            return -1;
        }
        try {
            switch (kind) {
                case 0:
                    return make(0, a, 0, null);
                case 1:
                    return makeArray(a);
                default:
                    return make(2, 1, a, null);
            }
        } catch (Thrown thrown) {
            return -2;
        }
    }

    private int make(int kind, int prototype, int code, Activation around) throws Thrown {
        if (things.size() == 32) {
            throw new Thrown(RANGE);
        }
        Thing thing = new Thing();
        thing.kind = kind;
        thing.prototype = prototype;
        thing.code = code;
        thing.around = around;
        things.add(thing);
        return things.size() - 1;
    }

    private int makeArray(int length) throws Thrown {
        int made = make(1, 2, 0, null);
        Property property = new Property();
        property.value = length;
        property.writable = true;
        things.get(made).properties.put(LENGTH, property);
        return made;
    }

    private static Boolean said(int flags, int bit, int saysBit) {
        return (flags >> saysBit & 1) == 0 ? null : Boolean.valueOf((flags >> bit & 1) != 0);
    }

    int define(int object, int key, long value, int flags) {
        if (!there(object) || !key(key) || flags < 0 || flags > 127 || flags >= 64 && !isValue(value)) {
            return -1;
        }
        Said said = new Said();
        said.writable = said(flags, 0, 3);
        said.enumerable = said(flags, 1, 4);
        said.configurable = said(flags, 2, 5);
        said.value = flags >= 64 ? Long.valueOf(value) : null;
        try {
            return define(things.get(object), key, said) ? 1 : 0;
        } catch (Thrown thrown) {
            return -2;
        }
    }

    int accessor(int object, int key, int getter, int setter, int flags) {
        if (!there(object) || !key(key) || flags < 0 || flags > 63) {
            return -1;
        }
        Said said = new Said();
        said.enumerable = said(flags, 1, 4);
        said.configurable = said(flags, 2, 5);
        if ((flags & 1) != 0) {
            if (getter != -1 && (!there(getter) || things.get(getter).kind != 2)) {
                return -1;
            }
            said.getter = getter == -1 ? UNDEFINED : FIRST + getter;
        }
        if ((flags & 8) != 0) {
            if (setter != -1 && (!there(setter) || things.get(setter).kind != 2)) {
                return -1;
            }
            said.setter = setter == -1 ? UNDEFINED : FIRST + setter;
        }
        try {
            return define(things.get(object), key, said) ? 1 : 0;
        } catch (Thrown thrown) {
            return -2;
        }
    }

    boolean seal(int object, int how) {
        if (!there(object) || how < 0 || how > 2) {
            return false;
        }
        seal(things.get(object), how);
        return true;
    }

    private interface Work {
        long run() throws Thrown, TooLong;
    }

    private int run(Work work) {
        begun = deepest = frames = 0;
        try {
            latest = work.run();
            return 0;
        } catch (Thrown thrown) {
            latest = thrown.value;
            return 1;
        } catch (TooLong tooLong) {
            latest = UNDEFINED;
            return 2;
        }
    }

    int call(int function, long self, long argument) {
        if (!there(function) || !isValue(self) || !isValue(argument)) {
            return -1;
        }
        return run(() -> invoke(FIRST + function, self, argument));
    }

    int get(int object, int key) {
        if (!there(object) || !key(key)) {
            return -1;
        }
        return run(() -> get(FIRST + object, key));
    }

    int put(int object, int key, long value, boolean isStrict) {
        if (!there(object) || !key(key) || !isValue(value)) {
            return -1;
        }
        return run(() -> {
            put(FIRST + object, key, value, isStrict);
            return value;
        });
    }

    int remove(int object, int key) {
        if (!there(object) || !key(key)) {
            return -1;
        }
        return delete(things.get(object), key) ? 1 : 0;
    }

    long result() {
        return latest;
    }

    long own(int object, int key, int what) {
        if (!there(object) || !key(key)) {
            return UNDEFINED;
        }
        Map<Integer, Property> all = things.get(object).properties;
        Property property = all.get(key);
        if (what == 0) {
            return property == null ? 0 : property.accessor ? 2 : 1;
        }
        if (property == null) {
            return UNDEFINED;
        }
        switch (what) {
            case 1:
                return (property.writable && !property.accessor ? 1 : 0) + (property.enumerable ? 2 : 0)
                        + (property.configurable ? 4 : 0);
            case 2:
                return property.accessor ? property.getter : property.value;
            case 3:
                return property.accessor ? property.setter : UNDEFINED;
            case 4:
                return new ArrayList<>(all.keySet()).indexOf(key);
            default:
                return UNDEFINED;
        }
    }

    int each(int object, int k) {
        if (!there(object) || k < 0) {
            return -1;
        }
        List<Integer> found = new ArrayList<>();
        Set<Integer> before = new HashSet<>();
        for (int at = object; at != -1; at = things.get(at).prototype) {
            for (Map.Entry<Integer, Property> entry : things.get(at).properties.entrySet()) {
                if (!before.contains(entry.getKey()) && entry.getValue().enumerable) {
                    found.add(entry.getKey());
                }
            }
            before.addAll(things.get(at).properties.keySet());
        }
        return k < found.size() ? found.get(k) : -1;
    }

    int of(int object, int what) {
        if (!there(object) || what < 0 || what > 3) {
            return -1;
        }
        Thing thing = things.get(object);
        int[] all = {thing.kind, thing.prototype, thing.extensible ? 1 : 0, thing.properties.size()};
        return all[what];
    }

    int state(int what) {
        int[] all = {things.size(), activations, begun, deepest};
        return what < 0 || what > 3 ? -1 : all[what];
    }

    int clear() {
        int had = things.size();
        reset();
        return had;
    }

    // The terms

    private boolean there(int object) {
        return object >= 0 && object < things.size();
    }

    private static boolean key(int key) {
        return key >= 0 && key <= 31;
    }

    private boolean isObject(long value) {
        return value >= FIRST && value < FIRST + things.size();
    }

    private static boolean isNumber(long value) {
        return value >= Integer.MIN_VALUE && value <= Integer.MAX_VALUE;
    }

    private boolean isValue(long value) {
        return isNumber(value) || value >= UNDEFINED && value <= RANGE || isObject(value);
    }

    private Thing thing(long value) {
        return isObject(value) ? things.get((int) (value - FIRST)) : null;
    }

    private boolean isFunction(long value) {
        return isObject(value) && thing(value).kind == 2;
    }

    private boolean define(Thing thing, int key, Said said) throws Thrown {
        if (thing.kind != 1) {
            return ordinaryDefine(thing, key, said);
        }
        Property length = thing.properties.get(LENGTH);
        if (key == LENGTH && said.value != null) {
            if (said.value < 0 || said.value > 16) {
                throw new Thrown(RANGE);
            }
            if (said.value < length.value) {
                return shorten(thing, length, said);
            }
        }
        if (key < 16 && key >= length.value) {
            if (!length.writable) {
                return false;
            }
            boolean made = ordinaryDefine(thing, key, said);
            if (made) {
                length.value = key + 1;
            }
            return made;
        }
        return ordinaryDefine(thing, key, said);
    }

    private boolean shorten(Thing thing, Property length, Said said) {
        if (!length.writable || !mayDefine(thing, LENGTH, said)) {
            return false;
        }
        for (int index = 15; index >= said.value; index--) {
            Property element = thing.properties.get(index);
            if (element != null && !element.configurable) {
                said.value = index + 1L;
                ordinaryDefine(thing, LENGTH, said);
                return false;
            }
            thing.properties.remove(index);
        }
        return ordinaryDefine(thing, LENGTH, said);
    }

    private static boolean mayDefine(Thing thing, int key, Said said) {
        Property now = thing.properties.get(key);
        if (now == null) {
            return thing.extensible;
        }
        if (now.configurable) {
            return true;
        }
        if (Boolean.TRUE.equals(said.configurable)
                || said.enumerable != null && said.enumerable != now.enumerable
                || now.accessor && said.data() || !now.accessor && said.accessor()
                || said.getter != null && said.getter != now.getter
                || said.setter != null && said.setter != now.setter) {
            return false;
        }
        boolean fixed = !now.accessor && !now.writable;
        return !fixed || !Boolean.TRUE.equals(said.writable) && (said.value == null || said.value == now.value);
    }

    private static boolean ordinaryDefine(Thing thing, int key, Said said) {
        if (!mayDefine(thing, key, said)) {
            return false;
        }
        Property now = thing.properties.computeIfAbsent(key, made -> new Property());
        if (said.data() && now.accessor) {
            now.accessor = false;
            now.value = UNDEFINED;
            now.writable = false;
        }
        if (said.accessor() && !now.accessor) {
            now.accessor = true;
            now.getter = now.setter = UNDEFINED;
        }
        now.value = said.value == null ? now.value : said.value;
        now.getter = said.getter == null ? now.getter : said.getter;
        now.setter = said.setter == null ? now.setter : said.setter;
        now.writable = said.writable == null ? now.writable : said.writable;
        now.enumerable = said.enumerable == null ? now.enumerable : said.enumerable;
        now.configurable = said.configurable == null ? now.configurable : said.configurable;
        return true;
    }

    /** The OBJECT that has it, or null. */
    private Thing look(Thing from, int key) {
        Thing at = from;
        while (at != null && !at.properties.containsKey(key)) {
            at = at.prototype == -1 ? null : things.get(at.prototype);
        }
        return at;
    }

    private long get(long base, int key) throws Thrown, TooLong {
        if (base == UNDEFINED || base == NULL) {
            throw new Thrown(TYPE);
        }
        Thing holder = look(thing(base), key);
        if (holder == null) {
            return UNDEFINED;
        }
        Property property = holder.properties.get(key);
        if (!property.accessor) {
            return property.value;
        }
        return property.getter == UNDEFINED ? UNDEFINED : invoke(property.getter, base);
    }

    private void put(long base, int key, long value, boolean isStrict) throws Thrown, TooLong {
        if (base == UNDEFINED || base == NULL) {
            throw new Thrown(TYPE);
        }
        if (!tryPut(base, key, value) && isStrict) {
            throw new Thrown(TYPE);
        }
    }

    private boolean tryPut(long base, int key, long value) throws Thrown, TooLong {
        Thing thing = thing(base);
        if (thing == null) {
            return false;
        }
        Thing holder = look(thing, key);
        Property property = holder == null ? null : holder.properties.get(key);
        if (property != null && property.accessor) {
            if (property.setter == UNDEFINED) {
                return false;
            }
            invoke(property.setter, base, value);
            return true;
        }
        if (holder == thing) {
            return property.writable && define(thing, key, Said.value(value));
        }
        if (!thing.extensible || property != null && !property.writable) {
            return false;
        }
        return define(thing, key, Said.allOn(value));
    }

    private static boolean delete(Thing thing, int key) {
        Property property = thing.properties.get(key);
        if (property != null && !property.configurable) {
            return false;
        }
        thing.properties.remove(key);
        return true;
    }

    private static void seal(Thing thing, int how) {
        thing.extensible = false;
        for (Property property : thing.properties.values()) {
            if (how >= 1) {
                property.configurable = false;
            }
            if (how == 2 && !property.accessor) {
                property.writable = false;
            }
        }
    }

    private Thing kin(long function) {
        Thing holder = look(thing(function), KIN);
        Property property = holder == null ? null : holder.properties.get(KIN);
        return property == null || property.accessor ? null : thing(property.value);
    }

    private long invoke(long called, long self, long... values) throws Thrown, TooLong {
        if (!isFunction(called)) {
            throw new Thrown(TYPE);
        }
        if (frames == 6 || activations == 24) {
            throw new Thrown(RANGE);
        }
        Thing function = thing(called);
        Frame frame = new Frame();
        frame.self = self;
        frame.strict = strict[function.code];
        frame.activation = new Activation();
        frame.activation.around = function.around;
        System.arraycopy(values, 0, frame.activation.variables, 0, values.length);
        frames++;
        activations++;
        deepest = Math.max(deepest, frames);
        try {
            return work(frame, codes.get(function.code));
        } finally {
            frames--;
            if (!frame.activation.kept) {
                activations--;
            }
        }
    }

    private static final class Given extends Exception {
        private static final long serialVersionUID = 1;
        final long value;

        Given(long value) {
            super(null, null, false, false);
            this.value = value;
        }
    }

    private long work(Frame frame, List<int[]> code) throws Thrown, TooLong {
        while (frame.next < code.size()) {
            if (begun == 300) {
                throw new TooLong();
            }
            begun++;
            int[] instruction = code.get(frame.next);
            frame.next++;
            try {
                execute(frame, Asm.NAMES.get(instruction[0]), instruction[1], instruction[2]);
            } catch (Given given) {
                return given.value;
            } catch (Thrown thrown) {
                handle(frame, thrown);
            }
        }
        return UNDEFINED;
    }

    private static void handle(Frame frame, Thrown first) throws Thrown {
        Thrown thrown = first;
        while (true) {
            if (frame.handlers.isEmpty()) {
                throw thrown;
            }
            Handler handler = frame.handlers.pop();
            while (frame.stack.size() > handler.height) {
                frame.pop();
            }
            try {
                frame.push(thrown.value);
                frame.next = handler.at;
                return;
            } catch (Thrown again) {
                thrown = again;
            }
        }
    }

    private static long truth(boolean holds) {
        return holds ? TRUE : FALSE;
    }

    private static Activation around(Frame frame, int steps) {
        Activation at = frame.activation;
        for (int i = 0; i < steps && at != null; i++) {
            at = at.around;
        }
        return at;
    }

    private static int keyOf(long value) throws Thrown {
        if (!isNumber(value) || !key((int) value)) {
            throw new Thrown(TYPE);
        }
        return (int) value;
    }

    private void execute(Frame frame, String op, int a, int b) throws Thrown, TooLong, Given {
        switch (op) {
            case "NUMBER": frame.push(a); break;
            case "SPECIAL": frame.push(UNDEFINED + a); break;
            case "DROP": frame.pop(); break;
            case "DUP": {
                long value = frame.pop();
                frame.push(value);
                frame.push(value);
                break;
            }
            case "SWAP": {
                long upper = frame.pop();
                long lower = frame.pop();
                frame.push(upper);
                frame.push(lower);
                break;
            }
            case "VAR": {
                Activation at = around(frame, a);
                frame.push(at == null ? UNDEFINED : at.variables[b]);
                break;
            }
            case "SET": {
                long value = frame.pop();
                Activation at = around(frame, a);
                if (at != null) {
                    at.variables[b] = value;
                }
                break;
            }
            case "THIS": frame.push(frame.self); break;
            case "GET": frame.push(get(frame.pop(), a)); break;
            case "PUT": {
                long value = frame.pop();
                put(frame.pop(), a, value, frame.strict);
                frame.push(value);
                break;
            }
            case "GETAT": {
                int key = keyOf(frame.pop());
                frame.push(get(frame.pop(), key));
                break;
            }
            case "PUTAT": {
                long value = frame.pop();
                int key = keyOf(frame.pop());
                put(frame.pop(), key, value, frame.strict);
                frame.push(value);
                break;
            }
            case "DELETE": {
                long base = frame.pop();
                if (base == UNDEFINED || base == NULL) {
                    throw new Thrown(TYPE);
                }
                boolean gone = !isObject(base) || delete(thing(base), a);
                if (!gone && frame.strict) {
                    throw new Thrown(TYPE);
                }
                frame.push(truth(gone));
                break;
            }
            case "HAS": {
                long base = frame.pop();
                if (!isObject(base)) {
                    throw new Thrown(TYPE);
                }
                frame.push(truth(look(thing(base), a) != null));
                break;
            }
            case "OBJECT": frame.push(FIRST + make(0, 0, 0, null)); break;
            case "ARRAY": {
                long[] values = frame.pop(a);
                int made = makeArray(0);
                for (int i = 0; i < a; i++) {
                    define(things.get(made), i, Said.allOn(values[i]));
                }
                frame.push(FIRST + made);
                break;
            }
            case "FUNCTION": {
                int made = make(2, 1, a, frame.activation);
                frame.activation.kept = true;
                frame.push(FIRST + made);
                break;
            }
            case "CALL": {
                long[] values = frame.pop(a);
                long self = frame.pop();
                frame.push(invoke(frame.pop(), self, values));
                break;
            }
            case "NEW": {
                long[] values = frame.pop(a);
                long called = frame.pop();
                if (!isFunction(called)) {
                    throw new Thrown(TYPE);
                }
                Thing kin = kin(called);
                long made = FIRST + make(0, kin == null ? 0 : things.indexOf(kin), 0, null);
                long given = invoke(called, made, values);
                frame.push(isObject(given) ? given : made);
                break;
            }
            case "GIVE": throw new Given(frame.pop());
            case "THROW": throw new Thrown(frame.pop());
            case "TRY": {
                if (frame.handlers.size() == 3) {
                    throw new Thrown(RANGE);
                }
                Handler handler = new Handler();
                handler.at = a;
                handler.height = frame.stack.size();
                frame.handlers.push(handler);
                break;
            }
            case "DONE": frame.handlers.poll(); break;
            case "JUMP": frame.next = a; break;
            case "IF": {
                if (!Arrays.asList(UNDEFINED, NULL, FALSE, 0L).contains(frame.pop())) {
                    frame.next = a;
                }
                break;
            }
            case "ADD": case "SUB": case "LESS": {
                long y = frame.pop();
                long x = frame.pop();
                if (!isNumber(x) || !isNumber(y)) {
                    throw new Thrown(TYPE);
                }
                frame.push(op.equals("ADD") ? (int) x + (int) y : op.equals("SUB") ? (int) x - (int) y : truth(x < y));
                break;
            }
            case "SAME": frame.push(truth(frame.pop() == frame.pop())); break;
            case "IS": {
                long function = frame.pop();
                Thing at = thing(frame.pop());
                Thing kin = isFunction(function) ? kin(function) : null;
                if (kin == null) {
                    throw new Thrown(TYPE);
                }
                boolean found = false;
                while (at != null) {
                    at = at.prototype == -1 ? null : things.get(at.prototype);
                    found |= at == kin;
                }
                frame.push(truth(found));
                break;
            }
            case "OF": {
                long value = frame.pop();
                frame.push(isObject(value) ? thing(value).kind : isNumber(value) ? 3 : 4 + value - UNDEFINED);
                break;
            }
            case "SEAL": {
                long value = frame.pop();
                if (isObject(value)) {
                    seal(thing(value), a);
                }
                frame.push(value);
                break;
            }
            default: throw new IllegalStateException(op);
        }
    }
}
