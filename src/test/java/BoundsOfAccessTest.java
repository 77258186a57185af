/** Terms on GET, PUT and DELETE, and promises 9 to 12 and 18 on them: each BASE, each way to FAIL. */
public final class BoundsOfAccessTest {
    private static final int W = 1, E = 2, C = 4, SAYS_W = 8, SAYS_E = 16, SAYS_C = 32, SAYS_VALUE = 64;
    private static final int SAYS_ALL = 120, ON = 127;
    private static final int GETTER = 1, SETTER = 8;
    private static final int R = Due.RETURNED;
    private static final int T = Due.THROWN;
    private static final long U = Due.UNDEFINED;

    private static final String[] NO_OBJECTS = {"SPECIAL 2", "SPECIAL 3", "SPECIAL 4", "SPECIAL 5", "NUMBER 0",
        "NUMBER 3", "NUMBER -1", "NUMBER 2147483647"};

    public static void main(String[] args) {
        getOfUndefinedOrNull();
        getOfNoObject();
        getOfNone();
        getWithoutGetter();
        getterIsCalled();
        putToUndefinedOrNull();
        putToNoObject();
        putWithoutSetter();
        setterIsCalled();
        putToOwnData();
        putNotExtensible();
        putBelowDataNotWritable();
        putAllOn();
        putToTheFirstOfBoth();
        putPushesTheValue();
        whatFails();
        strictOrNot();
        deleteOfUndefinedOrNull();
        deleteOfNoObject();
        deleteOfNone();
        deleteNotConfigurable();
        hasOfNoObject();
        keysThatArePopped();
        keysOfGetPutRemove();
        refusedLeavesResultAndState();
        results();
        removeAnswers();
        Due.end("BoundsOfAccessTest");
    }

    private static void getOfUndefinedOrNull() {
        Due.says("GET of a KEY of a BASE: if that is UNDEFINED or NULL, TYPE is thrown");
        String[] bases = {"SPECIAL 0", "SPECIAL 1", "DROP"};
        for (String base : bases) {
            Asm.due(T, Due.TYPE, base, "GET 0", "GIVE");
            Asm.due(T, Due.TYPE, base, "GET 31", "GIVE");
            Asm.due(T, Due.TYPE, base, "NUMBER 5", "GETAT", "GIVE");
        }
        // The BASE is popped: below what was thrown stands what was below it.
        Asm.due(R, 9, "NUMBER 9", "SPECIAL 1", "TRY 5", "GET 0", "GIVE", "DROP", "GIVE");
    }

    private static void getOfNoObject() {
        Due.says("if no OBJECT: UNDEFINED");
        for (String base : NO_OBJECTS) {
            // OBJECT 0 and OBJECT 3 have the KEY, a NUMBER does not.
            Asm.due(R, U, "THIS", "NUMBER 7", "PUT 5", base, "GET 5", "GIVE");
            Asm.due(R, U, "THIS", "NUMBER 7", "PUT 5", base, "NUMBER 5", "GETAT", "GIVE");
        }
    }

    private static void getOfNone() {
        Due.says("Else LOOKING: none: UNDEFINED; DATA: its VALUE");
        ObjectCore x = new ObjectCore();
        int alone = x.make(0, -1);
        x.define(alone, 31, Due.NULL, SAYS_VALUE);
        x.define(alone, 0, Due.TYPE, SAYS_VALUE);
        Due.ends("none", x, x.get(alone, 1), R, U);
        Due.ends("KEY 31", x, x.get(alone, 31), R, Due.NULL);
        Due.ends("KEY 0, an error as VALUE", x, x.get(alone, 0), R, Due.TYPE);
        Due.ends("not of another", x, x.get(0, 0), R, U);
        Asm.due(R, U, "OBJECT", "GET 0", "GIVE");
        Asm.due(R, U, "OBJECT", "NUMBER 31", "GETAT", "GIVE");
    }

    private static void getWithoutGetter() {
        Due.says("an ACCESSOR: if its GETTER is UNDEFINED that");
        ObjectCore x = new ObjectCore();
        int setter = Asm.function(x, 0, false, "NUMBER 7", "GIVE");
        x.accessor(0, 5, -1, setter, SETTER);
        x.accessor(1, 6, -1, -1, GETTER);
        x.define(0, 6, 9, ON);
        Due.ends("own", x, x.get(0, 5), R, U);
        Due.ends("from another", x, x.get(2, 5), R, U);
        Due.ends("it hides what is behind it", x, x.get(1, 6), R, U);
        Due.is("nothing is called", x.state(3), 0);
        int getting = Asm.function(x, 1, true, "THIS", "GET 5", "GIVE");
        Due.ends("by an instruction, STRICT", x, x.call(getting, Due.object(2), 0), R, U);
        Due.is("one FRAME", x.state(3), 1);
    }

    private static void getterIsCalled() {
        Due.says("else what a CALL of it with THIS the BASE and no ARGUMENTS gives");
        ObjectCore x = new ObjectCore();
        int self = Asm.function(x, 0, false, "THIS", "GIVE");
        int arguments = Asm.function(x, 1, false, "VAR 0 0", "VAR 0 1", "VAR 0 2", "VAR 0 3", "ARRAY 4", "GIVE");
        int nothing = x.make(2, 7);
        x.accessor(0, 5, self, -1, GETTER);
        x.accessor(0, 6, arguments, -1, GETTER);
        x.accessor(0, 7, nothing, -1, GETTER);
        Due.ends("THIS", x, x.get(2, 5), R, Due.object(2));
        Due.ends("an empty CODE", x, x.get(2, 7), R, U);
        Due.is("one FRAME", x.state(3), 1);
        // What an earlier CALL had as ARGUMENTS is not there.
        x.call(self, 1, 2);
        Due.ends("ARGUMENTS", x, x.get(2, 6), R, Due.object(6));
        for (int index = 0; index < 4; index++) {
            Due.is("ARGUMENT " + index, x.own(6, index, 2), U);
        }
        int getting = Asm.function(x, 2, false, "NUMBER 4", "THIS", "NUMBER 5", "GETAT", "SWAP", "DROP", "GIVE");
        Due.ends("by GETAT", x, x.call(getting, Due.object(2), 0), R, Due.object(2));
    }

    private static void putToUndefinedOrNull() {
        Due.says("BASE UNDEFINED or NULL: TYPE is thrown");
        String[] bases = {"SPECIAL 0", "SPECIAL 1", "DROP"};
        for (String base : bases) {
            // Also where it is not STRICT.
            Asm.due(T, Due.TYPE, base, "NUMBER 1", "PUT 5", "GIVE");
            Asm.dueStrict(T, Due.TYPE, base, "NUMBER 1", "PUT 5", "GIVE");
            Asm.due(T, Due.TYPE, base, "NUMBER 5", "NUMBER 1", "PUTAT", "GIVE");
        }
        Asm.due(R, 9, "NUMBER 9", "SPECIAL 0", "NUMBER 1", "TRY 6", "PUT 5", "GIVE", "DROP", "GIVE");
    }

    private static void putToNoObject() {
        Due.says("no OBJECT: FAILS");
        for (String base : NO_OBJECTS) {
            Asm.due(R, 1, base, "NUMBER 1", "PUT 5", "GIVE");
            Asm.dueStrict(T, Due.TYPE, base, "NUMBER 1", "PUT 5", "GIVE");
            Asm.due(R, 1, base, "NUMBER 5", "NUMBER 1", "PUTAT", "GIVE");
            Asm.dueStrict(T, Due.TYPE, base, "NUMBER 5", "NUMBER 1", "PUTAT", "GIVE");
            Asm.due(R, Due.FALSE, base, "NUMBER 1", "PUT 5", "THIS", "HAS 5", "GIVE");
        }
    }

    /** put that FAILS: it gives the VALUE, or throws TYPE if it is STRICT; nothing happens either way. */
    private static void fails(String what, ObjectCore x, int object, int key) {
        String before = Picture.object(x, object);
        Due.ends(what, x, x.put(object, key, 55, false), R, 55);
        Due.ends(what + ", STRICT", x, x.put(object, key, 55, true), T, Due.TYPE);
        Due.same(what + ", nothing happens", Picture.object(x, object), before);
        Due.is(what + ", no instruction", x.state(2), 0);
        Due.is(what + ", no FRAME", x.state(3), 0);
    }

    private static void putWithoutSetter() {
        Due.says("an ACCESSOR: FAILS if its SETTER is UNDEFINED");
        for (int on = 0; on <= (E | C); on += E) {
            ObjectCore x = new ObjectCore();
            int getter = Asm.function(x, 0, false, "NUMBER 7", "GIVE");
            x.accessor(0, 5, getter, -1, GETTER | SAYS_E | SAYS_C | on);
            fails("own", x, 0, 5);
            fails("of another", x, 2, 5);
        }
        ObjectCore x = new ObjectCore();
        x.accessor(0, 5, -1, -1, SETTER);
        fails("neither", x, 0, 5);
        fails("neither, of another", x, 2, 5);
    }

    private static void setterIsCalled() {
        Due.says("else a CALL of it with THIS the BASE and the VALUE (what it gives is dropped)");
        ObjectCore x = new ObjectCore();
        int setter = Asm.function(x, 0, false, "THIS", "VAR 0 0", "VAR 0 1", "VAR 0 2", "VAR 0 3", "ARRAY 4", "PUT 20",
                "NUMBER 99", "GIVE");
        x.accessor(0, 5, -1, setter, SETTER);
        // What an earlier CALL had as ARGUMENTS is not there.
        int four = Asm.function(x, 1, false, "FUNCTION 7", "THIS", "NUMBER 1", "NUMBER 2", "NUMBER 3",
                "NUMBER 4", "CALL 4");
        x.call(four, 0, 0);
        Due.ends("the VALUE, not what it gives", x, x.put(2, 5, 55, true), R, 55);
        int array = x.state(0) - 1;
        Due.is("THIS is the BASE", x.own(2, 20, 2), Due.object(array));
        long[] arguments = {55, U, U, U};
        for (int index = 0; index < 4; index++) {
            Due.is("ARGUMENT " + index, x.own(array, index, 2), arguments[index]);
        }
        Due.is("none of its own", x.own(2, 5, 0), 0);
        x.seal(2, 0);
        Due.ends("a BASE that is not EXTENSIBLE", x, x.put(2, 5, 56, true), R, 56);
        Due.is("is called then, too", x.state(2), 9);
        int thrower = Asm.function(x, 2, false, "VAR 0 0", "THROW");
        x.accessor(1, 5, -1, thrower, SETTER);
        Due.ends("what it throws", x, x.put(1, 5, 57, false), T, 57);
    }

    private static void putToOwnData() {
        Due.says("Own DATA: FAILS if it is not WRITABLE, else the VALUE is DEFINED");
        for (int on = 0; on <= (W | E | C); on++) {
            for (int how = -1; how < 2; how++) {
                ObjectCore x = new ObjectCore();
                x.define(0, 5, 9, SAYS_ALL | on);
                x.seal(0, how);
                int left = how == 1 ? on & (W | E) : on;
                if ((on & W) == 0) {
                    fails("not WRITABLE " + on, x, 0, 5);
                } else {
                    Due.ends("WRITABLE " + on, x, x.put(0, 5, 55, true), R, 55);
                    Due.same("WRITABLE " + on, Picture.property(x, 0, 5), Picture.of(1, left, 55, U, 0));
                }
            }
        }
        // Not even of the VALUE that it has; and what the PROTOTYPE has does not matter.
        ObjectCore x = new ObjectCore();
        x.define(2, 5, 55, SAYS_VALUE);
        x.define(0, 5, 1, ON);
        fails("the VALUE that it has", x, 2, 5);
        x.accessor(0, 6, -1, -1, SETTER);
        x.define(2, 6, 1, ON);
        Due.ends("before an ACCESSOR", x, x.put(2, 6, 2, true), R, 2);
    }

    private static void putNotExtensible() {
        Due.says("DATA of another OBJECT, or none: FAILS if the BASE is not EXTENSIBLE");
        for (int how = 0; how < 3; how++) {
            ObjectCore x = new ObjectCore();
            x.define(0, 6, 1, ON);
            x.seal(2, how);
            fails("none", x, 2, 5);
            fails("DATA of another", x, 2, 6);
        }
        // Whether that other one is EXTENSIBLE does not matter.
        ObjectCore x = new ObjectCore();
        x.define(0, 6, 1, ON);
        x.seal(0, 1);
        Due.ends("another that is not", x, x.put(2, 6, 55, true), R, 55);
        Due.ends("another that is not, none", x, x.put(2, 5, 55, true), R, 55);
    }

    private static void putBelowDataNotWritable() {
        Due.says("or that DATA not WRITABLE");
        for (int on = 0; on <= (E | C); on += E) {
            ObjectCore x = new ObjectCore();
            x.define(0, 5, 9, SAYS_VALUE | SAYS_W | SAYS_E | SAYS_C | on);
            fails("DATA " + on, x, 2, 5);
            Due.is("as it was", x.own(0, 5, 2), 9);
        }
        ObjectCore x = new ObjectCore();
        x.define(0, 5, 9, SAYS_VALUE);
        x.define(1, 5, 9, ON);
        int child = x.make(0, 1);
        Due.ends("the first that has it", x, x.put(child, 5, 55, true), R, 55);
        x.define(0, 16, 9, SAYS_VALUE);
        int array = x.make(1, 3);
        Due.ends("an ARRAY has its own LENGTH", x, x.put(array, 16, 4, true), R, 4);
    }

    private static void putAllOn() {
        Due.says("else DATA is DEFINED with the VALUE, all on");
        ObjectCore x = new ObjectCore();
        x.define(0, 6, 9, SAYS_VALUE | SAYS_W | W);
        Due.ends("none", x, x.put(2, 5, 55, true), R, 55);
        Due.ends("DATA of another", x, x.put(2, 6, 56, true), R, 56);
        Due.ends("KEY 31", x, x.put(2, 31, 57, false), R, 57);
        Due.ends("KEY 0", x, x.put(2, 0, 58, false), R, 58);
        Due.same("none", Picture.property(x, 2, 5), Picture.of(1, 7, 55, U, 0));
        Due.same("DATA of another", Picture.property(x, 2, 6), Picture.of(1, 7, 56, U, 1));
        Due.same("KEY 31", Picture.property(x, 2, 31), Picture.of(1, 7, 57, U, 2));
        Due.same("KEY 0", Picture.property(x, 2, 0), Picture.of(1, 7, 58, U, 3));
        Due.same("the other is as it was", Picture.property(x, 0, 6), Picture.of(1, W, 9, U, 0));
    }

    private static void putToTheFirstOfBoth() {
        Due.says("PROPERTIES of an OBJECT have different KEYS 0..31");
        ObjectCore x = new ObjectCore();
        x.define(0, 0, 9, SAYS_VALUE | SAYS_W | W);
        Due.ends("own DATA", x, x.put(0, 0, 55, true), R, 55);
        Due.same("own DATA", Picture.property(x, 0, 0), Picture.of(1, W, 55, U, 0));
        x.seal(0, 0);
        Due.ends("not EXTENSIBLE, own DATA", x, x.put(0, 0, 56, true), R, 56);
        x.define(0, 0, 56, SAYS_W);
        fails("not WRITABLE", x, 0, 0);
        fails("of another, not WRITABLE", x, 1, 0);
        ObjectCore y = new ObjectCore();
        int setter = Asm.function(y, 0, false, "THIS", "VAR 0 0", "PUT 1");
        y.accessor(0, 0, -1, setter, SETTER);
        Due.ends("a SETTER", y, y.put(2, 0, 57, true), R, 57);
        Due.is("it was called", y.own(2, 1, 2), 57);
    }

    private static void putPushesTheValue() {
        Due.says("the VALUE is pushed in the end (unless something is thrown)");
        ObjectCore x = new ObjectCore();
        int setter = Asm.function(x, 0, false, "NUMBER 99", "GIVE");
        int thrower = Asm.function(x, 1, false, "NUMBER 98", "THROW");
        x.accessor(0, 5, -1, setter, SETTER);
        x.accessor(0, 6, -1, thrower, SETTER);
        String[] keys = {"4", "5", "6"};
        long[] due = {7, 7, 98};
        for (int i = 0; i < keys.length; i++) {
            int end = i == 2 ? T : R;
            int put = Asm.function(x, 2, false, "THIS", "NUMBER 7", "PUT " + keys[i], "GIVE");
            Due.ends("PUT " + keys[i], x, x.call(put, Due.object(0), 0), end, due[i]);
            int putAt = Asm.function(x, 3, false, "THIS", "NUMBER " + keys[i], "NUMBER 7", "PUTAT", "GIVE");
            Due.ends("PUTAT " + keys[i], x, x.call(putAt, Due.object(0), 0), end, due[i]);
        }
        // Where it is thrown only what was thrown is pushed, above what was below the BASE.
        int caught = Asm.function(x, 4, false, "NUMBER 9", "THIS", "NUMBER 7", "TRY 6", "PUT 6", "GIVE", "DROP",
                "GIVE");
        Due.ends("caught", x, x.call(caught, Due.object(0), 0), R, 9);
    }

    private static void whatFails() {
        Due.says("What FAILS throws TYPE if it is STRICT, else nothing happens");
        // Behind what FAILS and is not STRICT it goes on.
        Asm.due(R, 3, "OBJECT", "SEAL 2", "NUMBER 1", "PUT 5", "NUMBER 2", "ADD", "GIVE");
        Asm.dueStrict(T, Due.TYPE, "OBJECT", "SEAL 2", "NUMBER 1", "PUT 5", "NUMBER 2", "ADD", "GIVE");
        Asm.due(R, 9, "ARRAY 0", "DELETE 16", "NUMBER 9", "GIVE");
        Asm.dueStrict(T, Due.TYPE, "ARRAY 0", "DELETE 16", "NUMBER 9", "GIVE");
        Asm.dueStrict(R, Due.TYPE, "ARRAY 0", "TRY 4", "DELETE 16", "GIVE", "GIVE");
        Due.says("put that FAILS and is not STRICT ends RETURNED");
        ObjectCore x = new ObjectCore();
        x.seal(0, 0);
        fails("none", x, 0, 5);
    }

    private static void strictOrNot() {
        Due.says("The instructions PUT, PUTAT and DELETE are STRICT if the CODE is in which they stand");
        String[] put = {"OBJECT", "SEAL 0", "NUMBER 5", "PUT 3", "GIVE"};
        String[] putAt = {"OBJECT", "SEAL 0", "NUMBER 3", "NUMBER 5", "PUTAT", "GIVE"};
        String[] delete = {"ARRAY 0", "DELETE 16", "GIVE"};
        Asm.due(R, 5, put);
        Asm.due(R, 5, putAt);
        Asm.due(R, Due.FALSE, delete);
        Asm.dueStrict(T, Due.TYPE, put);
        Asm.dueStrict(T, Due.TYPE, putAt);
        Asm.dueStrict(T, Due.TYPE, delete);
        // A SETTER that is not STRICT, put to by one that is, and the other way round; put's own word is for neither.
        for (int inner = 0; inner < 2; inner++) {
            ObjectCore x = new ObjectCore();
            int setter = Asm.function(x, 7, inner == 1, "NUMBER 1", "NUMBER 2", "PUT 9");
            x.accessor(0, 5, -1, setter, SETTER);
            int putting = Asm.function(x, 0, inner == 0, "THIS", "NUMBER 5", "PUT 5", "GIVE");
            int end = inner == 1 ? T : R;
            Due.ends("by PUT", x, x.call(putting, Due.object(0), 0), end, inner == 1 ? Due.TYPE : 5);
            Due.ends("by put", x, x.put(0, 5, 5, inner == 0), end, inner == 1 ? Due.TYPE : 5);
        }
        // Back in the outer CODE its own word counts again.
        ObjectCore x = new ObjectCore();
        Asm.write(x, 1, false, "GIVE");
        int outer = Asm.function(x, 0, true, "FUNCTION 1", "THIS", "CALL 0", "NUMBER 2", "NUMBER 5", "PUT 3", "GIVE");
        Due.ends("behind a CALL", x, x.call(outer, 0, 0), T, Due.TYPE);
    }

    private static void deleteOfUndefinedOrNull() {
        Due.says("DELETE of a KEY: BASE as for GET");
        String[] bases = {"SPECIAL 0", "SPECIAL 1", "DROP"};
        for (String base : bases) {
            Asm.due(T, Due.TYPE, base, "DELETE 5", "GIVE");
            Asm.dueStrict(T, Due.TYPE, base, "DELETE 5", "GIVE");
        }
        Asm.due(R, 9, "NUMBER 9", "SPECIAL 0", "TRY 5", "DELETE 5", "GIVE", "DROP", "GIVE");
    }

    private static void deleteOfNoObject() {
        Due.says("no OBJECT: TRUE");
        for (String base : NO_OBJECTS) {
            Asm.due(R, Due.TRUE, base, "DELETE 5", "GIVE");
            Asm.dueStrict(R, Due.TRUE, base, "DELETE 5", "GIVE");
        }
    }

    private static void deleteOfNone() {
        Due.says("None of its own: TRUE");
        Asm.dueStrict(R, Due.TRUE, "OBJECT", "DELETE 5", "GIVE");
        Asm.dueStrict(R, Due.TRUE, "OBJECT", "SEAL 2", "DELETE 5", "GIVE");
        ObjectCore x = new ObjectCore();
        x.define(0, 5, 9, 0);
        x.define(0, 6, 9, ON);
        int deleting = Asm.function(x, 0, true, "THIS", "DELETE 5", "THIS", "DELETE 6", "ARRAY 2", "GIVE");
        Due.ends("of a PROTOTYPE", x, x.call(deleting, Due.object(2), 0), R, Due.object(4));
        Due.is("TRUE, not CONFIGURABLE there", x.own(4, 0, 2), Due.TRUE);
        Due.is("TRUE, CONFIGURABLE there", x.own(4, 1, 2), Due.TRUE);
        Due.is("both stay there", x.of(0, 3), 2);
        Due.is("remove, not CONFIGURABLE there", x.remove(2, 5), 1);
        Due.is("remove, CONFIGURABLE there", x.remove(2, 6), 1);
        Due.is("both still", x.of(0, 3), 2);
    }

    private static void deleteNotConfigurable() {
        Due.says("Not CONFIGURABLE: FAILS, with FALSE. Else the PROPERTY goes: TRUE");
        for (int on = 0; on <= (W | E | C); on++) {
            boolean goes = (on & C) != 0;
            for (int strict = 0; strict < 2; strict++) {
                ObjectCore x = new ObjectCore();
                int deleting = Asm.function(x, 0, strict == 1, "THIS", "DELETE 5", "GIVE");
                x.define(0, 5, 9, SAYS_ALL | on);
                boolean thrown = strict == 1 && !goes;
                Due.ends("DATA " + on, x, x.call(deleting, Due.object(0), 0), thrown ? T : R,
                        thrown ? Due.TYPE : goes ? Due.TRUE : Due.FALSE);
                Due.is("is there " + on, x.own(0, 5, 0), goes ? 0 : 1);
                Due.is("PROPERTIES " + on, x.of(0, 3), goes ? 0 : 1);
            }
        }
        ObjectCore x = new ObjectCore();
        x.accessor(0, 5, -1, -1, GETTER);
        x.accessor(0, 6, -1, -1, GETTER | SAYS_C | C);
        Due.is("an ACCESSOR", x.remove(0, 5), 0);
        Due.is("an ACCESSOR that is CONFIGURABLE", x.remove(0, 6), 1);
        x.define(0, 7, 9, ON);
        x.seal(0, 0);
        Due.is("not EXTENSIBLE", x.remove(0, 7), 1);
    }

    private static void hasOfNoObject() {
        Due.says("TYPE is thrown if it is no OBJECT");
        for (String base : NO_OBJECTS) {
            Asm.due(T, Due.TYPE, base, "HAS 5", "GIVE");
        }
        Asm.due(T, Due.TYPE, "SPECIAL 0", "HAS 5", "GIVE");
        Asm.due(T, Due.TYPE, "SPECIAL 1", "HAS 5", "GIVE");
        Asm.due(T, Due.TYPE, "HAS 5", "GIVE");
        Asm.due(R, 9, "NUMBER 9", "NUMBER 8", "TRY 5", "HAS 5", "GIVE", "DROP", "GIVE");
        Asm.due(R, Due.FALSE, "THIS", "HAS 0", "GIVE");
        Asm.due(R, Due.TRUE, "THIS", "SPECIAL 0", "PUT 0", "OBJECT", "HAS 0", "GIVE");
        Asm.due(R, Due.TRUE, "THIS", "SPECIAL 0", "PUT 31", "THIS", "HAS 31", "GIVE");
        ObjectCore x = new ObjectCore();
        int has = Asm.function(x, 0, false, "THIS", "HAS 5", "GIVE");
        x.accessor(0, 5, has, has, GETTER | SETTER);
        Due.ends("an ACCESSOR is found, not called", x, x.call(has, Due.object(2), 0), R, Due.TRUE);
        Due.is("one FRAME", x.state(3), 1);
    }

    private static void keysThatArePopped() {
        Due.says("it throws TYPE if it is no NUMBER 0..31 (the BASE is not popped then)");
        String[] none = {"NUMBER -1", "NUMBER 32", "NUMBER 2147483647", "NUMBER -2147483648", "SPECIAL 0", "SPECIAL 1",
            "SPECIAL 2", "SPECIAL 3", "SPECIAL 4", "SPECIAL 5", "THIS", "FUNCTION 0"};
        for (String key : none) {
            Asm.due(T, Due.TYPE, "THIS", key, "GETAT", "GIVE");
            Asm.due(T, Due.TYPE, "THIS", key, "NUMBER 1", "PUTAT", "GIVE");
            // Also where a BASE would FAIL, and nothing would be thrown.
            Asm.due(T, Due.TYPE, "NUMBER 6", key, "NUMBER 1", "PUTAT", "GIVE");
            Asm.due(R, 44, "NUMBER 44", key, "TRY 5", "GETAT", "GIVE", "DROP", "GIVE");
            Asm.due(R, 44, "NUMBER 44", key, "NUMBER 1", "TRY 6", "PUTAT", "GIVE", "DROP", "GIVE");
        }
        int[] keys = {0, 1, 15, 16, 17, 30, 31};
        for (int key : keys) {
            Asm.due(R, 8, "THIS", "NUMBER " + key, "NUMBER 8", "PUTAT", "THIS", "GET " + key, "GIVE");
            Asm.due(R, 8, "THIS", "NUMBER 8", "PUT " + key, "THIS", "NUMBER " + key, "GETAT", "GIVE");
        }
        Due.says("the KEY is popped right behind the VALUE, before the BASE");
        Asm.due(R, 3, "THIS", "NUMBER 2", "NUMBER 3", "PUTAT", "DROP", "THIS", "GET 2", "GIVE");
        Asm.due(T, Due.TYPE, "NUMBER 2", "THIS", "NUMBER 3", "PUTAT", "GIVE");
        Asm.due(T, Due.TYPE, "NUMBER 2", "THIS", "GETAT", "GIVE");
        Asm.due(R, 9, "NUMBER 9", "SPECIAL 0", "NUMBER 2", "TRY 6", "GETAT", "GIVE", "DROP", "GIVE");
        Asm.due(R, 9, "NUMBER 9", "SPECIAL 0", "NUMBER 2", "NUMBER 3", "TRY 7", "PUTAT", "GIVE", "DROP", "GIVE");
    }

    private static void keysOfGetPutRemove() {
        Due.says("REFUSED if there is no such OBJECT or KEY");
        int[][] none = {{-1, 5}, {3, 5}, {31, 5}, {32, 5}, {0, -1}, {0, 32}, {-1, -1}, {Integer.MAX_VALUE, 0},
            {Integer.MIN_VALUE, 0}, {0, Integer.MAX_VALUE}, {0, Integer.MIN_VALUE}, {1, -32}, {0, 64}};
        for (int[] pair : none) {
            ObjectCore x = new ObjectCore();
            x.define(0, 5, 9, ON);
            String what = " of " + pair[0] + ", " + pair[1];
            Due.is("get" + what, x.get(pair[0], pair[1]), Due.REFUSED);
            Due.is("put" + what, x.put(pair[0], pair[1], 1, false), Due.REFUSED);
            Due.is("put" + what + ", STRICT", x.put(pair[0], pair[1], 1, true), Due.REFUSED);
            Due.is("remove" + what, x.remove(pair[0], pair[1]), Due.REFUSED);
            Due.same("nothing changes" + what, Picture.object(x, 0),
                    "OBJECT 0 0 -1 1 1, KEY 5: " + Picture.of(1, 7, 9, U, 0));
        }
        ObjectCore x = new ObjectCore();
        for (int object = 3; object < 32; object++) {
            x.make(0, 0);
        }
        Due.ends("put, the last of both", x, x.put(31, 31, 1, true), R, 1);
        Due.ends("get, the last of both", x, x.get(31, 31), R, 1);
        Due.is("remove, the last of both", x.remove(31, 31), 1);
        Due.ends("get, the first of both", x, x.get(0, 0), R, U);
    }

    private static void refusedLeavesResultAndState() {
        Due.says("then the latest result, and what state tells, stay");
        ObjectCore x = new ObjectCore();
        int function = Asm.function(x, 0, false, "NUMBER 8", "THROW");
        x.call(function, 0, 0);
        String before = Picture.all(x);
        Due.is("get, OBJECT", x.get(4, 0), Due.REFUSED);
        Due.is("get, KEY", x.get(0, 32), Due.REFUSED);
        Due.is("put, OBJECT", x.put(4, 0, 1, true), Due.REFUSED);
        Due.is("put, KEY", x.put(0, -1, 1, true), Due.REFUSED);
        Due.is("put, VALUE", x.put(0, 0, Due.object(4), true), Due.REFUSED);
        Due.is("call, OBJECT", x.call(4, 0, 0), Due.REFUSED);
        Due.is("call, OBJECT -1", x.call(-1, 0, 0), Due.REFUSED);
        Due.is("call, self", x.call(function, Due.object(4), 0), Due.REFUSED);
        Due.is("call, argument", x.call(function, 0, Due.object(4)), Due.REFUSED);
        Due.is("call, no FUNCTION and no VALUE", x.call(0, 0, 1L << 31), Due.REFUSED);
        Due.same("all stays", Picture.all(x), before);
        Due.is("result", x.result(), 8);
        Due.is("begun", x.state(2), 2);
        Due.is("FRAMES", x.state(3), 1);
    }

    private static void results() {
        Due.says("UNDEFINED if it was LONG, or there was none (that was not REFUSED)");
        ObjectCore x = new ObjectCore();
        Due.is("none", x.result(), U);
        x.get(0, 32);
        x.put(0, 0, 1L << 32, true);
        x.call(3, 0, 0);
        Due.is("REFUSED ones alone", x.result(), U);
        int loop = Asm.function(x, 0, false, "NUMBER 5", "JUMP 3", "GIVE", "JUMP 3");
        x.accessor(0, 5, loop, loop, GETTER | SETTER);
        x.put(0, 6, 9, true);
        Due.ends("call", x, x.call(loop, 0, 7), Due.LONG, U);
        x.put(0, 6, 9, true);
        Due.ends("get", x, x.get(0, 5), Due.LONG, U);
        x.put(0, 6, 9, true);
        Due.ends("put", x, x.put(0, 5, 7, true), Due.LONG, U);
        x.put(0, 6, 9, true);
        x.clear();
        Due.is("cleared", x.result(), U);
        Due.says("What the latest call, get or put gave (put: the VALUE), or threw");
        x.define(0, 6, 9, ON);
        Due.ends("put", x, x.put(0, 6, Due.NULL, true), R, Due.NULL);
        Due.ends("get", x, x.get(0, 6), R, Due.NULL);
        Due.ends("call", x, x.call(0, 1, 2), T, Due.TYPE);
        x.remove(0, 6);
        x.define(0, 6, 9, ON);
        x.accessor(0, 7, -1, -1, 63);
        x.seal(1, 0);
        x.make(1, 5);
        x.define(3, 16, 17, SAYS_VALUE);
        Due.is("the others do not matter", x.result(), Due.TYPE);
        x.seal(0, 2);
        Due.ends("put that FAILS", x, x.put(0, 6, 10, false), R, 10);
        Due.ends("put that FAILS, STRICT", x, x.put(0, 6, 10, true), T, Due.TYPE);
    }

    private static void removeAnswers() {
        Due.says("DELETE: 1 TRUE, 0 FALSE");
        ObjectCore x = new ObjectCore();
        x.define(0, 5, 9, ON);
        x.define(0, 6, 9, SAYS_VALUE);
        Due.is("there", x.remove(0, 5), 1);
        Due.is("gone", x.remove(0, 5), 1);
        Due.is("not CONFIGURABLE", x.remove(0, 6), 0);
        Due.is("it stays", x.own(0, 6, 2), 9);
        Due.is("result", x.result(), U);
        Due.says("remove is not STRICT");
        int strict = Asm.function(x, 0, true, "THIS", "DELETE 6");
        Due.ends("by DELETE", x, x.call(strict, Due.object(0), 0), T, Due.TYPE);
        Due.is("by remove", x.remove(0, 6), 0);
    }
}
