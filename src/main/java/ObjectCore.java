/** Objects with prototypes, and the functions that work on them, as ../shared/DOC.md promises. */
public final class ObjectCore {
    public static final int RETURNED = 0, THROWN = 1, LONG = 2, REFUSED = -1, FULL = -2;

    private static final long UNDEFINED = 1L << 33;
    private static final long NULL = UNDEFINED + 1;
    private static final long FALSE = UNDEFINED + 2;
    private static final long TRUE = UNDEFINED + 3;
    private static final long TYPE = UNDEFINED + 4;
    private static final long RANGE = UNDEFINED + 5;
    private static final long FIRST_OBJECT = 1L << 34;

    private static final int CODES = 8;
    private static final int INSTRUCTIONS = 24;
    private static final int ALL_INSTRUCTIONS = 192;
    private static final int OBJECTS = 32;
    private static final int KEYS = 32;
    private static final int SLOTS = 1024;
    private static final int INDEXES = 16;
    private static final int LENGTH = 16;
    private static final int KIN = 17;
    private static final int ACTIVATIONS = 24;
    private static final int VARIABLES = 4;
    private static final int ALL_VARIABLES = 96;
    private static final int ARGUMENTS = 4;
    private static final int FRAMES = 6;
    private static final int STACK = 10;
    private static final int ALL_STACKS = 60;
    private static final int HANDLERS = 3;
    private static final int ALL_HANDLERS = 18;
    private static final int MOST_BEGUN = 300;
    private static final int MOST_STEPS = 1000000;

    private static final int NONE = -1;
    private static final int PLAIN = 0;
    private static final int ARRAY = 1;
    private static final int FUNCTION = 2;
    private static final int PLAIN_PROTOTYPE = 0;
    private static final int FUNCTION_PROTOTYPE = 1;
    private static final int ARRAY_PROTOTYPE = 2;

    private static final int ABSENT = 0;
    private static final int DATA = 1;
    private static final int ACCESSOR = 2;

    // What a DEFINE says, in one number: bits 0..6 as in define, and two more for ACCESSORS.
    private static final int WRITABLE = 1;
    private static final int ENUMERABLE = 2;
    private static final int CONFIGURABLE = 4;
    private static final int ATTRIBUTES = 7;
    private static final int SAYS_SHIFT = 3;
    private static final int SAYS_WRITABLE = 8;
    private static final int SAYS_ENUMERABLE = 16;
    private static final int SAYS_CONFIGURABLE = 32;
    private static final int SAYS_VALUE = 64;
    private static final int SAYS_GETTER = 128;
    private static final int SAYS_SETTER = 256;
    private static final int SAYS_DATA = SAYS_VALUE + SAYS_WRITABLE;
    private static final int SAYS_ACCESSOR = SAYS_GETTER + SAYS_SETTER;
    private static final int ALL_ON = 127;

    private static final int DONE = 1;
    private static final int NOT_DONE = 0;
    private static final int OUT_OF_RANGE = -2;

    private static final int FREE = 0;
    private static final int AT_WORK = 1;
    private static final int KEPT = 2;

    private static final int GIVES_WHAT_IS_GIVEN = 0;
    private static final int GIVES_WHAT_WAS_PUT = 1;
    private static final int GIVES_THE_NEW_ONE = 2;

    private static final int OP_NUMBER = 0, OP_SPECIAL = 1, OP_DROP = 2, OP_DUP = 3, OP_SWAP = 4;
    private static final int OP_VAR = 5, OP_SET = 6, OP_THIS = 7, OP_GET = 8, OP_PUT = 9;
    private static final int OP_GETAT = 10, OP_PUTAT = 11, OP_DELETE = 12, OP_HAS = 13;
    private static final int OP_OBJECT = 14, OP_ARRAY = 15, OP_FUNCTION = 16, OP_CALL = 17;
    private static final int OP_NEW = 18, OP_GIVE = 19, OP_THROW = 20, OP_TRY = 21, OP_DONE = 22;
    private static final int OP_JUMP = 23, OP_IF = 24, OP_ADD = 25, OP_SUB = 26, OP_LESS = 27;
    private static final int OP_SAME = 28, OP_IS = 29, OP_OF = 30, OP_SEAL = 31;

    private final int[] codeLength = new int[CODES];
    private final boolean[] codeStrict = new boolean[CODES];
    private final int[] codeOp = new int[ALL_INSTRUCTIONS];
    private final int[] codeA = new int[ALL_INSTRUCTIONS];
    private final int[] codeB = new int[ALL_INSTRUCTIONS];

    private int objectCount;
    private final int[] objectKind = new int[OBJECTS];
    private final int[] prototype = new int[OBJECTS];
    private final boolean[] extensible = new boolean[OBJECTS];
    private final int[] functionCode = new int[OBJECTS];
    private final int[] functionScope = new int[OBJECTS];
    private final int[] propertyCount = new int[OBJECTS];
    private final int[] keyOrder = new int[SLOTS];

    private final int[] propertyKind = new int[SLOTS];
    private final int[] attributes = new int[SLOTS];
    private final long[] valueOrGetter = new long[SLOTS];
    private final long[] setterOf = new long[SLOTS];

    private final int[] activationState = new int[ACTIVATIONS];
    private final int[] activationAround = new int[ACTIVATIONS];
    private final long[] variables = new long[ALL_VARIABLES];

    private int frames;
    private final int[] frameCode = new int[FRAMES];
    private final int[] frameNext = new int[FRAMES];
    private final int[] frameActivation = new int[FRAMES];
    private final int[] frameHeight = new int[FRAMES];
    private final int[] frameHandlers = new int[FRAMES];
    private final int[] frameEnding = new int[FRAMES];
    private final long[] frameThis = new long[FRAMES];
    private final long[] frameHeld = new long[FRAMES];
    private final long[] stack = new long[ALL_STACKS];
    private final int[] handlerAt = new int[ALL_HANDLERS];
    private final int[] handlerHeight = new int[ALL_HANDLERS];
    private final long[] arguments = new long[ARGUMENTS];

    private int begun;
    private int deepest;
    private long latest;
    private boolean throwing;
    private long thrown;

    public ObjectCore() {
        reset();
    }

    public int code(int code, boolean strict) {
        if (code < 0 || code >= CODES) {
            return REFUSED;
        }
        int had = codeLength[code];
        codeLength[code] = 0;
        codeStrict[code] = strict;
        return had;
    }

    public int add(int code, int op, int a, int b) {
        if (code < 0 || code >= CODES || !isInstruction(op, a, b)) {
            return REFUSED;
        }
        int count = codeLength[code];
        if (count >= INSTRUCTIONS) {
            return FULL;
        }
        int at = code * INSTRUCTIONS + count;
        codeOp[at] = op;
        codeA[at] = a;
        codeB[at] = b;
        codeLength[code] = count + 1;
        return count + 1;
    }

    public int make(int kind, int a) {
        boolean plain = kind == PLAIN && a >= NONE && a < objectCount;
        boolean array = kind == ARRAY && a >= 0 && a <= INDEXES;
        boolean function = kind == FUNCTION && a >= 0 && a < CODES;
        if (!plain && !array && !function) {
            return REFUSED;
        }
        int made;
        if (plain) {
            made = newObject(PLAIN, a);
        } else if (array) {
            made = newArray(a);
        } else {
            made = newFunction(a, NONE);
        }
        return made < 0 ? FULL : made;
    }

    public int define(int object, int key, long value, int flags) {
        if (!isThere(object, key) || flags < 0 || flags > ALL_ON) {
            return REFUSED;
        }
        if ((flags & SAYS_VALUE) != 0 && !isValue(value)) {
            return REFUSED;
        }
        int done = defineProperty(object, key, flags, value, UNDEFINED);
        return done == OUT_OF_RANGE ? FULL : done;
    }

    public int accessor(int object, int key, int getter, int setter, int flags) {
        if (!isThere(object, key) || flags < 0 || flags > 63) {
            return REFUSED;
        }
        boolean saysGetter = (flags & 1) != 0;
        boolean saysSetter = (flags & 8) != 0;
        if (saysGetter && !mayAccess(getter) || saysSetter && !mayAccess(setter)) {
            return REFUSED;
        }
        int said = flags & (ENUMERABLE | CONFIGURABLE | SAYS_ENUMERABLE | SAYS_CONFIGURABLE);
        said |= saysGetter ? SAYS_GETTER : 0;
        said |= saysSetter ? SAYS_SETTER : 0;
        long getterValue = getter < 0 ? UNDEFINED : FIRST_OBJECT + getter;
        long setterValue = setter < 0 ? UNDEFINED : FIRST_OBJECT + setter;
        return defineProperty(object, key, said, getterValue, setterValue);
    }

    public boolean seal(int object, int how) {
        if (object < 0 || object >= objectCount || how < 0 || how > 2) {
            return false;
        }
        sealObject(object, how);
        return true;
    }

    public int call(int function, long self, long argument) {
        if (function < 0 || function >= objectCount || !isValue(self) || !isValue(argument)) {
            return REFUSED;
        }
        startRun();
        arguments[0] = argument;
        beginCall(FIRST_OBJECT + function, self, 1, GIVES_WHAT_IS_GIVEN, UNDEFINED);
        return run();
    }

    public int get(int object, int key) {
        if (!isThere(object, key)) {
            return REFUSED;
        }
        startRun();
        getValue(FIRST_OBJECT + object, key);
        return run();
    }

    public int put(int object, int key, long value, boolean strict) {
        if (!isThere(object, key) || !isValue(value)) {
            return REFUSED;
        }
        startRun();
        putValue(FIRST_OBJECT + object, key, value, strict);
        return run();
    }

    public int remove(int object, int key) {
        if (!isThere(object, key)) {
            return REFUSED;
        }
        return removeIfAllowed(object, key) ? 1 : 0;
    }

    public long result() {
        return latest;
    }

    public long own(int object, int key, int what) {
        if (!isThere(object, key)) {
            return UNDEFINED;
        }
        int slot = object * KEYS + key;
        int kind = propertyKind[slot];
        if (what == 0) {
            return kind;
        }
        if (kind == ABSENT) {
            return UNDEFINED;
        }
        switch (what) {
            case 1:
                return attributes[slot];
            case 2:
                return valueOrGetter[slot];
            case 3:
                return kind == ACCESSOR ? setterOf[slot] : UNDEFINED;
            case 4:
                return placeInOrder(object, key);
            default:
                return UNDEFINED;
        }
    }

    public int each(int object, int k) {
        if (object < 0 || object >= objectCount || k < 0) {
            return REFUSED;
        }
        int had = 0;
        int left = k;
        int at = object;
        for (int i = 0; i < OBJECTS && at >= 0; i++) {
            int count = propertyCount[at];
            for (int place = 0; place < count; place++) {
                int key = keyOrder[at * KEYS + place];
                boolean hidden = (had >>> key & 1) != 0;
                had |= 1 << key;
                if (!hidden && (attributes[at * KEYS + key] & ENUMERABLE) != 0) {
                    if (left == 0) {
                        return key;
                    }
                    left--;
                }
            }
            at = prototype[at];
        }
        return REFUSED;
    }

    public int of(int object, int what) {
        if (object < 0 || object >= objectCount) {
            return REFUSED;
        }
        switch (what) {
            case 0:
                return objectKind[object];
            case 1:
                return prototype[object];
            case 2:
                return extensible[object] ? 1 : 0;
            case 3:
                return propertyCount[object];
            default:
                return REFUSED;
        }
    }

    public int state(int what) {
        switch (what) {
            case 0:
                return objectCount;
            case 1:
                return countActivations();
            case 2:
                return begun;
            case 3:
                return deepest;
            default:
                return REFUSED;
        }
    }

    public int clear() {
        int had = objectCount;
        reset();
        return had;
    }

    private void reset() {
        objectCount = 0;
        newObject(PLAIN, NONE);
        newObject(PLAIN, PLAIN_PROTOTYPE);
        newObject(PLAIN, PLAIN_PROTOTYPE);
        for (int activation = 0; activation < ACTIVATIONS; activation++) {
            activationState[activation] = FREE;
        }
        startRun();
    }

    private static boolean isInstruction(int op, int a, int b) {
        if (op < 0 || op > OP_SEAL) {
            return false;
        }
        boolean ofVariable = op == OP_VAR || op == OP_SET;
        if (ofVariable && (b < 0 || b >= VARIABLES)) {
            return false;
        }
        int greatest = greatestA(op);
        return greatest == NONE || a >= 0 && a <= greatest;
    }

    /** NONE where a is not looked at; NUMBER is among these, since every int is one. */
    private static int greatestA(int op) {
        switch (op) {
            case OP_SPECIAL:
                return 5;
            case OP_VAR:
            case OP_SET:
                return 3;
            case OP_GET:
            case OP_PUT:
            case OP_DELETE:
            case OP_HAS:
                return KEYS - 1;
            case OP_ARRAY:
            case OP_CALL:
            case OP_NEW:
                return ARGUMENTS;
            case OP_FUNCTION:
                return CODES - 1;
            case OP_TRY:
            case OP_JUMP:
            case OP_IF:
                return INSTRUCTIONS;
            case OP_SEAL:
                return 2;
            default:
                return NONE;
        }
    }

    private boolean isThere(int object, int key) {
        return object >= 0 && object < objectCount && key >= 0 && key < KEYS;
    }

    private boolean mayAccess(int function) {
        if (function < 0 || function >= objectCount) {
            return function == NONE;
        }
        return objectKind[function] == FUNCTION;
    }

    private static boolean isNumber(long value) {
        return value == (int) value;
    }

    private static boolean isTruthy(long value) {
        return value != UNDEFINED && value != NULL && value != FALSE && value != 0;
    }

    private int objectOf(long value) {
        if (value < FIRST_OBJECT || value >= FIRST_OBJECT + objectCount) {
            return NONE;
        }
        return (int) (value - FIRST_OBJECT);
    }

    private boolean isValue(long value) {
        boolean special = value >= UNDEFINED && value <= RANGE;
        return special || isNumber(value) || objectOf(value) >= 0;
    }

    private int newObject(int kind, int itsPrototype) {
        if (objectCount >= OBJECTS) {
            return NONE;
        }
        int made = objectCount;
        objectCount++;
        objectKind[made] = kind;
        prototype[made] = itsPrototype;
        extensible[made] = true;
        propertyCount[made] = 0;
        for (int key = 0; key < KEYS; key++) {
            propertyKind[made * KEYS + key] = ABSENT;
        }
        return made;
    }

    private int newArray(int length) {
        int made = newObject(ARRAY, ARRAY_PROTOTYPE);
        if (made >= 0) {
            storeProperty(made, LENGTH, SAYS_VALUE | SAYS_WRITABLE | WRITABLE, length, UNDEFINED);
        }
        return made;
    }

    private int newFunction(int code, int scope) {
        int made = newObject(FUNCTION, FUNCTION_PROTOTYPE);
        if (made >= 0) {
            functionCode[made] = code;
            functionScope[made] = scope;
        }
        return made;
    }

    /** LOOKING: the slot of the first PROPERTY with this KEY, or NONE. */
    private int find(int object, int key) {
        int at = object;
        for (int i = 0; i < OBJECTS && at >= 0; i++) {
            int slot = at * KEYS + key;
            if (propertyKind[slot] != ABSENT) {
                return slot;
            }
            at = prototype[at];
        }
        return NONE;
    }

    private int placeInOrder(int object, int key) {
        int count = propertyCount[object];
        for (int place = 0; place < count; place++) {
            if (keyOrder[object * KEYS + place] == key) {
                return place;
            }
        }
        return NONE;
    }

    /** DEFINE; value is the VALUE or the GETTER, as said tells. */
    private int defineProperty(int object, int key, int said, long value, long setter) {
        boolean ofArray = objectKind[object] == ARRAY;
        boolean setsLength = ofArray && key == LENGTH && (said & SAYS_VALUE) != 0;
        if (setsLength && (value < 0 || value > INDEXES)) {
            return OUT_OF_RANGE;
        }
        int lengthSlot = object * KEYS + LENGTH;
        boolean grows = ofArray && key < INDEXES && key >= valueOrGetter[lengthSlot];
        if (grows && (attributes[lengthSlot] & WRITABLE) == 0) {
            return NOT_DONE;
        }
        if (isForbidden(object, key, said, value, setter)) {
            return NOT_DONE;
        }
        long stored = value;
        if (setsLength) {
            int reached = leastLength(object, (int) value);
            for (int index = INDEXES - 1; index >= reached; index--) {
                removeProperty(object, index);
            }
            stored = reached;
        }
        storeProperty(object, key, said, stored, setter);
        if (grows) {
            valueOrGetter[lengthSlot] = key + 1;
        }
        return stored == value ? DONE : NOT_DONE;
    }

    private boolean isForbidden(int object, int key, int said, long value, long setter) {
        int slot = object * KEYS + key;
        int kind = propertyKind[slot];
        if (kind == ABSENT) {
            return !extensible[object];
        }
        int now = attributes[slot];
        if ((now & CONFIGURABLE) != 0) {
            return false;
        }
        int saidOn = said & said >> SAYS_SHIFT & ATTRIBUTES;
        if ((saidOn & CONFIGURABLE) != 0) {
            return true;
        }
        if ((said & SAYS_ENUMERABLE) != 0 && (saidOn & ENUMERABLE) != (now & ENUMERABLE)) {
            return true;
        }
        boolean otherValue = value != valueOrGetter[slot];
        if (kind == ACCESSOR) {
            boolean otherGetter = (said & SAYS_GETTER) != 0 && otherValue;
            boolean otherSetter = (said & SAYS_SETTER) != 0 && setter != setterOf[slot];
            return (said & SAYS_DATA) != 0 || otherGetter || otherSetter;
        }
        if ((said & SAYS_ACCESSOR) != 0) {
            return true;
        }
        if ((now & WRITABLE) != 0) {
            return false;
        }
        return (saidOn & WRITABLE) != 0 || (said & SAYS_VALUE) != 0 && otherValue;
    }

    /** How far down LENGTH can go towards wanted: to behind the last element that has to stay. */
    private int leastLength(int array, int wanted) {
        for (int index = INDEXES - 1; index >= wanted; index--) {
            int slot = array * KEYS + index;
            if (propertyKind[slot] != ABSENT && (attributes[slot] & CONFIGURABLE) == 0) {
                return index + 1;
            }
        }
        return wanted;
    }

    private void storeProperty(int object, int key, int said, long value, long setter) {
        int slot = object * KEYS + key;
        int was = propertyKind[slot];
        int kind = was == ABSENT ? DATA : was;
        if ((said & SAYS_DATA) != 0) {
            kind = DATA;
        } else if ((said & SAYS_ACCESSOR) != 0) {
            kind = ACCESSOR;
        }
        if (was == ABSENT) {
            keyOrder[object * KEYS + propertyCount[object]] = key;
            propertyCount[object]++;
            attributes[slot] = 0;
        }
        if (kind != was) {
            propertyKind[slot] = kind;
            valueOrGetter[slot] = UNDEFINED;
            setterOf[slot] = UNDEFINED;
            attributes[slot] &= ~WRITABLE;
        }
        if ((said & (SAYS_VALUE | SAYS_GETTER)) != 0) {
            valueOrGetter[slot] = value;
        }
        if ((said & SAYS_SETTER) != 0) {
            setterOf[slot] = setter;
        }
        int changing = said >> SAYS_SHIFT & ATTRIBUTES;
        attributes[slot] = attributes[slot] & ~changing | said & changing;
    }

    private void removeProperty(int object, int key) {
        int slot = object * KEYS + key;
        if (propertyKind[slot] == ABSENT) {
            return;
        }
        propertyKind[slot] = ABSENT;
        int count = propertyCount[object];
        int kept = 0;
        for (int place = 0; place < count; place++) {
            int other = keyOrder[object * KEYS + place];
            if (other != key) {
                keyOrder[object * KEYS + kept] = other;
                kept++;
            }
        }
        propertyCount[object] = kept;
    }

    private boolean removeIfAllowed(int object, int key) {
        int slot = object * KEYS + key;
        if (propertyKind[slot] == ABSENT) {
            return true;
        }
        if ((attributes[slot] & CONFIGURABLE) == 0) {
            return false;
        }
        removeProperty(object, key);
        return true;
    }

    private void sealObject(int object, int how) {
        extensible[object] = false;
        int taken = how == 0 ? 0 : CONFIGURABLE;
        if (how == 2) {
            taken |= WRITABLE;
        }
        for (int key = 0; key < KEYS; key++) {
            attributes[object * KEYS + key] &= ~taken;
        }
    }

    private void getValue(long base, int key) {
        if (base == UNDEFINED || base == NULL) {
            raise(TYPE);
            return;
        }
        int object = objectOf(base);
        int slot = find(object, key);
        if (slot < 0) {
            push(UNDEFINED);
        } else if (propertyKind[slot] == DATA || valueOrGetter[slot] == UNDEFINED) {
            push(valueOrGetter[slot]);
        } else {
            beginCall(valueOrGetter[slot], base, 0, GIVES_WHAT_IS_GIVEN, UNDEFINED);
        }
    }

    private void putValue(long base, int key, long value, boolean strict) {
        if (base == UNDEFINED || base == NULL) {
            raise(TYPE);
            return;
        }
        int object = objectOf(base);
        int slot = find(object, key);
        if (slot >= 0 && propertyKind[slot] == ACCESSOR && setterOf[slot] != UNDEFINED) {
            arguments[0] = value;
            beginCall(setterOf[slot], base, 1, GIVES_WHAT_WAS_PUT, value);
            return;
        }
        // An ACCESSOR is never WRITABLE, so one without SETTER fails here, too.
        boolean readOnly = slot >= 0 && (attributes[slot] & WRITABLE) == 0;
        boolean isOwn = slot >= 0 && slot == object * KEYS + key;
        int done = NOT_DONE;
        if (object >= 0 && !readOnly && (isOwn || extensible[object])) {
            int said = isOwn ? SAYS_VALUE : ALL_ON;
            done = defineProperty(object, key, said, value, UNDEFINED);
        }
        if (done == OUT_OF_RANGE) {
            raise(RANGE);
        } else if (done == NOT_DONE && strict) {
            raise(TYPE);
        } else {
            push(value);
        }
    }

    private void deleteKey(long base, int key, boolean strict) {
        if (base == UNDEFINED || base == NULL) {
            raise(TYPE);
            return;
        }
        int object = objectOf(base);
        boolean done = object < 0 || removeIfAllowed(object, key);
        if (!done && strict) {
            raise(TYPE);
        } else {
            pushWhether(done);
        }
    }

    private void hasKey(long base, int key) {
        int object = objectOf(base);
        if (object < 0) {
            raise(TYPE);
            return;
        }
        int slot = find(object, key);
        pushWhether(slot >= 0);
    }

    /** The OBJECT that is DATA under KIN, or NONE. */
    private int kinOf(int function) {
        int slot = find(function, KIN);
        if (slot < 0 || propertyKind[slot] != DATA) {
            return NONE;
        }
        return objectOf(valueOrGetter[slot]);
    }

    private void startRun() {
        frames = 0;
        begun = 0;
        deepest = 0;
        latest = UNDEFINED;
        throwing = false;
    }

    private void raise(long value) {
        throwing = true;
        thrown = value;
    }

    /** Without a FRAME it is for the one who called from outside. */
    private void push(long value) {
        int top = frames - 1;
        if (top < 0) {
            latest = value;
        } else if (frameHeight[top] >= STACK) {
            // Not by raise: calls go no deeper than here.
            throwing = true;
            thrown = RANGE;
        } else {
            stack[top * STACK + frameHeight[top]] = value;
            frameHeight[top]++;
        }
    }

    private void pushWhether(boolean holds) {
        push(holds ? TRUE : FALSE);
    }

    private void pushNew(int object) {
        if (object < 0) {
            raise(RANGE);
        } else {
            push(FIRST_OBJECT + object);
        }
    }

    private long pop() {
        int top = frames - 1;
        if (top < 0 || frameHeight[top] == 0) {
            return UNDEFINED;
        }
        frameHeight[top]--;
        return stack[top * STACK + frameHeight[top]];
    }

    private void popArguments(int count) {
        for (int i = count - 1; i >= 0; i--) {
            arguments[i] = pop();
        }
    }

    private int freeActivation() {
        for (int activation = 0; activation < ACTIVATIONS; activation++) {
            if (activationState[activation] == FREE) {
                return activation;
            }
        }
        return NONE;
    }

    private int countActivations() {
        int count = 0;
        for (int activation = 0; activation < ACTIVATIONS; activation++) {
            if (activationState[activation] != FREE) {
                count++;
            }
        }
        return count;
    }

    /** A CALL with the first of the arguments; ending tells what is pushed when its FRAME ends. */
    private void beginCall(long called, long self, int count, int ending, long held) {
        int function = objectOf(called);
        if (function < 0 || objectKind[function] != FUNCTION) {
            raise(TYPE);
            return;
        }
        int activation = freeActivation();
        if (frames >= FRAMES || activation < 0) {
            raise(RANGE);
            return;
        }
        activationState[activation] = AT_WORK;
        activationAround[activation] = functionScope[function];
        for (int i = 0; i < VARIABLES; i++) {
            variables[activation * VARIABLES + i] = i < count ? arguments[i] : UNDEFINED;
        }
        int top = frames;
        frameCode[top] = functionCode[function];
        frameNext[top] = 0;
        frameActivation[top] = activation;
        frameHeight[top] = 0;
        frameHandlers[top] = 0;
        frameEnding[top] = ending;
        frameThis[top] = self;
        frameHeld[top] = held;
        frames++;
        if (frames > deepest) {
            deepest = frames;
        }
    }

    private void leaveFrame() {
        frames--;
        int activation = frameActivation[frames];
        if (activationState[activation] == AT_WORK) {
            activationState[activation] = FREE;
        }
    }

    private void endFrame(long given) {
        int top = frames - 1;
        int ending = frameEnding[top];
        int object = objectOf(given);
        boolean givesHeld = ending == GIVES_WHAT_WAS_PUT || ending == GIVES_THE_NEW_ONE && object < 0;
        long outcome = givesHeld ? frameHeld[top] : given;
        leaveFrame();
        push(outcome);
    }

    private void unwind() {
        int top = frames - 1;
        if (frameHandlers[top] == 0) {
            leaveFrame();
            return;
        }
        frameHandlers[top]--;
        int handler = top * HANDLERS + frameHandlers[top];
        if (frameHeight[top] > handlerHeight[handler]) {
            frameHeight[top] = handlerHeight[handler];
        }
        frameNext[top] = handlerAt[handler];
        throwing = false;
        // Onto a full stack this throws anew, to the next HANDLER.
        push(thrown);
    }

    private int endLong() {
        for (int i = 0; i < FRAMES && frames > 0; i++) {
            leaveFrame();
        }
        return LONG;
    }

    private int run() {
        for (int step = 0; step < MOST_STEPS && frames > 0; step++) {
            int top = frames - 1;
            int code = frameCode[top];
            int next = frameNext[top];
            if (throwing) {
                unwind();
            } else if (next >= codeLength[code]) {
                endFrame(UNDEFINED);
            } else if (begun >= MOST_BEGUN) {
                return endLong();
            } else {
                begun++;
                frameNext[top] = next + 1;
                int at = code * INSTRUCTIONS + next;
                int op = codeOp[at];
                if (op <= OP_THIS) {
                    stackOp(op, codeA[at], codeB[at]);
                } else if (op <= OP_HAS) {
                    propertyOp(op, codeA[at]);
                } else if (op <= OP_NEW) {
                    makeOp(op, codeA[at]);
                } else if (op <= OP_IF) {
                    controlOp(op, codeA[at]);
                } else if (op <= OP_LESS) {
                    numberOp(op);
                } else {
                    valueOp(op, codeA[at]);
                }
            }
        }
        if (throwing) {
            latest = thrown;
            return THROWN;
        }
        return RETURNED;
    }

    private void stackOp(int op, int a, int b) {
        long popped;
        switch (op) {
            case OP_NUMBER:
                push(a);
                break;
            case OP_SPECIAL:
                push(UNDEFINED + a);
                break;
            case OP_DROP:
                pop();
                break;
            case OP_DUP:
                popped = pop();
                push(popped);
                push(popped);
                break;
            case OP_SWAP:
                popped = pop();
                long below = pop();
                push(popped);
                push(below);
                break;
            case OP_VAR:
                pushVariable(a, b);
                break;
            case OP_SET:
                setVariable(a, b);
                break;
            default:
                push(frameThis[frames - 1]);
                break;
        }
    }

    private int activationAt(int steps) {
        int activation = frameActivation[frames - 1];
        for (int i = 0; i < steps && activation >= 0; i++) {
            activation = activationAround[activation];
        }
        return activation;
    }

    private void pushVariable(int steps, int variable) {
        int activation = activationAt(steps);
        push(activation < 0 ? UNDEFINED : variables[activation * VARIABLES + variable]);
    }

    private void setVariable(int steps, int variable) {
        long value = pop();
        int activation = activationAt(steps);
        if (activation >= 0) {
            variables[activation * VARIABLES + variable] = value;
        }
    }

    private void propertyOp(int op, int a) {
        boolean strict = codeStrict[frameCode[frames - 1]];
        int key = a;
        long value = UNDEFINED;
        if (op == OP_PUT || op == OP_PUTAT) {
            value = pop();
        }
        if (op == OP_GETAT || op == OP_PUTAT) {
            long popped = pop();
            if (popped < 0 || popped >= KEYS) {
                raise(TYPE);
                return;
            }
            key = (int) popped;
        }
        long base = pop();
        if (op == OP_GET || op == OP_GETAT) {
            getValue(base, key);
        } else if (op == OP_PUT || op == OP_PUTAT) {
            putValue(base, key, value, strict);
        } else if (op == OP_DELETE) {
            deleteKey(base, key, strict);
        } else {
            hasKey(base, key);
        }
    }

    private void makeOp(int op, int a) {
        switch (op) {
            case OP_OBJECT:
                int plain = newObject(PLAIN, PLAIN_PROTOTYPE);
                pushNew(plain);
                break;
            case OP_ARRAY:
                makeArray(a);
                break;
            case OP_FUNCTION:
                makeFunction(a);
                break;
            case OP_CALL:
                popArguments(a);
                long self = pop();
                long called = pop();
                beginCall(called, self, a, GIVES_WHAT_IS_GIVEN, UNDEFINED);
                break;
            default:
                beginNew(a);
                break;
        }
    }

    private void makeArray(int count) {
        popArguments(count);
        int made = newArray(count);
        if (made >= 0) {
            for (int index = 0; index < count; index++) {
                storeProperty(made, index, ALL_ON, arguments[index], UNDEFINED);
            }
        }
        pushNew(made);
    }

    private void makeFunction(int code) {
        int activation = frameActivation[frames - 1];
        int made = newFunction(code, activation);
        if (made >= 0) {
            activationState[activation] = KEPT;
        }
        pushNew(made);
    }

    private void beginNew(int count) {
        popArguments(count);
        long called = pop();
        int function = objectOf(called);
        if (function < 0 || objectKind[function] != FUNCTION) {
            raise(TYPE);
            return;
        }
        int kin = kinOf(function);
        int made = newObject(PLAIN, kin < 0 ? PLAIN_PROTOTYPE : kin);
        if (made < 0) {
            raise(RANGE);
            return;
        }
        long self = FIRST_OBJECT + made;
        beginCall(called, self, count, GIVES_THE_NEW_ONE, self);
    }

    private void controlOp(int op, int a) {
        int top = frames - 1;
        long popped;
        switch (op) {
            case OP_GIVE:
                popped = pop();
                endFrame(popped);
                break;
            case OP_THROW:
                popped = pop();
                raise(popped);
                break;
            case OP_TRY:
                addHandler(a);
                break;
            case OP_DONE:
                if (frameHandlers[top] > 0) {
                    frameHandlers[top]--;
                }
                break;
            case OP_JUMP:
                frameNext[top] = a;
                break;
            default:
                popped = pop();
                if (isTruthy(popped)) {
                    frameNext[top] = a;
                }
                break;
        }
    }

    private void addHandler(int at) {
        int top = frames - 1;
        int count = frameHandlers[top];
        if (count >= HANDLERS) {
            raise(RANGE);
            return;
        }
        handlerAt[top * HANDLERS + count] = at;
        handlerHeight[top * HANDLERS + count] = frameHeight[top];
        frameHandlers[top] = count + 1;
    }

    private void numberOp(int op) {
        long y = pop();
        long x = pop();
        if (!isNumber(x) || !isNumber(y)) {
            raise(TYPE);
        } else if (op == OP_ADD) {
            push((int) (x + y));
        } else if (op == OP_SUB) {
            push((int) (x - y));
        } else {
            pushWhether(x < y);
        }
    }

    private void valueOp(int op, int a) {
        long popped = pop();
        int object = objectOf(popped);
        switch (op) {
            case OP_SAME:
                long other = pop();
                pushWhether(popped == other);
                break;
            case OP_IS:
                pushWhetherKin(object);
                break;
            case OP_OF:
                pushKindOf(popped);
                break;
            default:
                if (object >= 0) {
                    sealObject(object, a);
                }
                push(popped);
                break;
        }
    }

    private void pushWhetherKin(int function) {
        long value = pop();
        int kin = NONE;
        if (function >= 0 && objectKind[function] == FUNCTION) {
            kin = kinOf(function);
        }
        if (kin < 0) {
            raise(TYPE);
            return;
        }
        int object = objectOf(value);
        int at = object < 0 ? NONE : prototype[object];
        for (int i = 0; i < OBJECTS && at >= 0 && at != kin; i++) {
            at = prototype[at];
        }
        pushWhether(at == kin);
    }

    private void pushKindOf(long value) {
        int object = objectOf(value);
        if (object >= 0) {
            push(objectKind[object]);
        } else if (isNumber(value)) {
            push(3);
        } else {
            push(4 + value - UNDEFINED);
        }
    }
}
