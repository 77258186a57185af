/** Promises 9, 10 and 12 (and 18 on them): get, put and result. */
public final class GetPutTest {
    private static final int GETTER = 1, SETTER = 8;

    public static void main(String[] args) {
        getLooks();
        getCalls();
        putOwn();
        putNew();
        putCalls();
        putFails();
        refusedLeavesAll();
        resultTells();
        longOnes();
        firstObjectAndKey();
        Due.end("GetPutTest");
    }

    private static void getLooks() {
        ObjectCore x = new ObjectCore();
        int parent = x.make(0, 0);
        int child = x.make(0, parent);
        x.define(0, 1, 10, 127);
        x.define(parent, 2, 20, 64);
        x.define(0, 2, 21, 127);
        x.define(child, 3, Due.FALSE, 64);
        Due.ends("far", x, x.get(child, 1), Due.RETURNED, 10);
        Due.ends("the first", x, x.get(child, 2), Due.RETURNED, 20);
        Due.ends("own", x, x.get(child, 3), Due.RETURNED, Due.FALSE);
        Due.ends("none", x, x.get(child, 4), Due.RETURNED, Due.UNDEFINED);
        Due.ends("not from the child", x, x.get(parent, 3), Due.RETURNED, Due.UNDEFINED);
        Due.is("no instruction", x.state(2), 0);
        Due.is("no FRAME", x.state(3), 0);
    }

    private static void getCalls() {
        ObjectCore x = new ObjectCore();
        int child = x.make(0, 0);
        int self = Asm.function(x, 0, false, "THIS", "GIVE");
        int variable = Asm.function(x, 1, false, "VAR 0 0", "GIVE");
        int thrower = Asm.function(x, 2, false, "NUMBER 5", "THROW");
        x.accessor(0, 1, self, -1, GETTER);
        x.accessor(0, 2, -1, self, GETTER | SETTER);
        x.accessor(0, 3, variable, -1, GETTER);
        x.accessor(0, 4, thrower, -1, GETTER);
        Due.ends("THIS is the BASE", x, x.get(child, 1), Due.RETURNED, Due.object(child));
        Due.is("two instructions", x.state(2), 2);
        Due.is("one FRAME", x.state(3), 1);
        Due.ends("no GETTER", x, x.get(child, 2), Due.RETURNED, Due.UNDEFINED);
        Due.is("no FRAME", x.state(3), 0);
        Due.ends("no ARGUMENTS", x, x.get(child, 3), Due.RETURNED, Due.UNDEFINED);
        Due.ends("THROWN", x, x.get(child, 4), Due.THROWN, 5);
        Due.is("FRAMES end", x.state(1), 0);
    }

    private static void putOwn() {
        ObjectCore x = new ObjectCore();
        x.define(0, 1, 10, 64 + 8 + 1);
        Due.ends("WRITABLE", x, x.put(0, 1, 11, true), Due.RETURNED, 11);
        Due.is("VALUE", x.own(0, 1, 2), 11);
        Due.is("flags stay", x.own(0, 1, 1), 1);
        x.seal(0, 1);
        Due.ends("not EXTENSIBLE", x, x.put(0, 1, 12, true), Due.RETURNED, 12);
        Due.is("VALUE then", x.own(0, 1, 2), 12);
    }

    private static void putNew() {
        ObjectCore x = new ObjectCore();
        int child = x.make(0, 0);
        x.define(0, 1, 10, 64 + 8 + 1);
        Due.ends("none", x, x.put(child, 2, 11, false), Due.RETURNED, 11);
        Due.is("all on", x.own(child, 2, 1), 7);
        Due.ends("of another", x, x.put(child, 1, 12, true), Due.RETURNED, 12);
        Due.is("own then", x.own(child, 1, 2), 12);
        Due.is("all on then", x.own(child, 1, 1), 7);
        Due.is("the other stays", x.own(0, 1, 2), 10);
    }

    private static void putCalls() {
        ObjectCore x = new ObjectCore();
        int child = x.make(0, 0);
        int setter = Asm.function(x, 0, false, "THIS", "VAR 0 0", "PUT 9", "THIS", "VAR 0 1", "PUT 10",
                "NUMBER 77", "GIVE");
        int thrower = Asm.function(x, 1, false, "VAR 0 0", "THROW");
        x.accessor(0, 1, -1, setter, SETTER);
        x.accessor(0, 2, -1, thrower, SETTER);
        Due.ends("the VALUE", x, x.put(child, 1, 6, true), Due.RETURNED, 6);
        Due.is("to the BASE", x.own(child, 9, 2), 6);
        Due.is("one ARGUMENT", x.own(child, 10, 2), Due.UNDEFINED);
        Due.is("nothing of its own", x.own(child, 1, 0), 0);
        Due.is("eight instructions", x.state(2), 8);
        Due.ends("THROWN", x, x.put(child, 2, Due.NULL, false), Due.THROWN, Due.NULL);
        x.seal(child, 2);
        Due.ends("a SETTER for a sealed one", x, x.put(child, 2, 5, false), Due.THROWN, 5);
    }

    private static void putFails() {
        ObjectCore x = new ObjectCore();
        int child = x.make(0, 0);
        int function = x.make(2, 0);
        x.define(0, 1, 10, 64);
        x.define(child, 2, 10, 64 + 32 + 4);
        x.accessor(0, 3, function, -1, GETTER + 32 + 4);
        x.accessor(child, 4, function, -1, GETTER);
        for (int key = 1; key <= 4; key++) {
            Due.ends("KEY " + key, x, x.put(child, key, 5, false), Due.RETURNED, 5);
            Due.ends("STRICT KEY " + key, x, x.put(child, key, 5, true), Due.THROWN, Due.TYPE);
        }
        Due.is("nothing of its own", x.own(child, 1, 0), 0);
        Due.is("not WRITABLE", x.own(child, 2, 2), 10);
        x.seal(child, 0);
        x.define(0, 6, 1, 127);
        for (int key = 5; key <= 6; key++) {
            Due.ends("not EXTENSIBLE " + key, x, x.put(child, key, 5, false), Due.RETURNED, 5);
            Due.ends("not EXTENSIBLE, STRICT " + key, x, x.put(child, key, 5, true), Due.THROWN, Due.TYPE);
            Due.is("none " + key, x.own(child, key, 0), 0);
        }
    }

    private static void refusedLeavesAll() {
        ObjectCore x = new ObjectCore();
        int give = Asm.function(x, 0, false, "NUMBER 8", "GIVE");
        x.call(give, 0, 0);
        Due.is("get object", x.get(-1, 0), Due.REFUSED);
        Due.is("get object 4", x.get(4, 0), Due.REFUSED);
        Due.is("get key -1", x.get(0, -1), Due.REFUSED);
        Due.is("get key 32", x.get(0, 32), Due.REFUSED);
        Due.is("put object", x.put(-1, 0, 0, true), Due.REFUSED);
        Due.is("put object 4", x.put(4, 0, 0, false), Due.REFUSED);
        Due.is("put key -1", x.put(0, -1, 0, true), Due.REFUSED);
        Due.is("put key 32", x.put(0, 32, 0, true), Due.REFUSED);
        Due.is("put VALUE", x.put(0, 0, Due.object(4), true), Due.REFUSED);
        Due.is("put VALUE 2^31", x.put(0, 0, 1L << 31, true), Due.REFUSED);
        Due.is("put VALUE 2^33 - 1", x.put(0, 0, Due.UNDEFINED - 1, true), Due.REFUSED);
        Due.is("put VALUE 2^33 + 6", x.put(0, 0, Due.RANGE + 1, true), Due.REFUSED);
        Due.is("call", x.call(4, 0, 0), Due.REFUSED);
        Due.is("call -1", x.call(-1, 0, 0), Due.REFUSED);
        Due.is("call self", x.call(give, Due.object(4), 0), Due.REFUSED);
        Due.is("call argument", x.call(give, 0, Long.MIN_VALUE), Due.REFUSED);
        Due.is("result stays", x.result(), 8);
        Due.is("begun stays", x.state(2), 2);
        Due.is("FRAMES stay", x.state(3), 1);
        Due.is("nothing put", x.of(0, 3), 0);
    }

    private static void resultTells() {
        ObjectCore x = new ObjectCore();
        Due.is("none yet", x.result(), Due.UNDEFINED);
        x.get(9, 9);
        Due.is("REFUSED alone", x.result(), Due.UNDEFINED);
        x.put(0, 3, 4, true);
        Due.is("put", x.result(), 4);
        x.define(0, 4, 5, 127);
        x.remove(0, 3);
        x.own(0, 4, 2);
        Due.is("others do not matter", x.result(), 4);
        Due.is("nor twice", x.result(), 4);
        x.get(0, 4);
        Due.is("get", x.result(), 5);
        x.call(0, 0, 0);
        Due.is("call", x.result(), Due.TYPE);
        x.get(0, 9);
        Due.is("get of none", x.result(), Due.UNDEFINED);
    }

    private static void longOnes() {
        ObjectCore x = new ObjectCore();
        int loop = Asm.function(x, 0, false, "JUMP 0");
        x.accessor(0, 1, loop, loop, GETTER | SETTER);
        x.put(0, 2, 9, true);
        Due.ends("get", x, x.get(0, 1), Due.LONG, Due.UNDEFINED);
        Due.is("begun", x.state(2), 300);
        x.put(0, 2, 9, true);
        Due.ends("put", x, x.put(0, 1, 5, false), Due.LONG, Due.UNDEFINED);
        Due.is("begun by put", x.state(2), 300);
        Due.is("no ACTIVATION", x.state(1), 0);
    }

    /** OBJECT 0 and KEY 0 are like all others. */
    private static void firstObjectAndKey() {
        ObjectCore x = new ObjectCore();
        Due.ends("put", x, x.put(0, 0, 5, true), Due.RETURNED, 5);
        Due.ends("get", x, x.get(0, 0), Due.RETURNED, 5);
        Due.ends("get from 1", x, x.get(1, 0), Due.RETURNED, 5);
        Due.is("each", x.each(0, 0), 0);
        Due.is("seal", x.seal(0, 1), true);
        Due.is("sealed", x.own(0, 0, 1), 3);
        Due.ends("put again", x, x.put(0, 0, 6, true), Due.RETURNED, 6);
        x.seal(0, 2);
        Due.ends("put no more", x, x.put(0, 0, 7, true), Due.THROWN, Due.TYPE);
        Due.ends("put no more from 1", x, x.put(1, 0, 7, true), Due.THROWN, Due.TYPE);
        x = new ObjectCore();
        int function = Asm.function(x, 0, false, "NUMBER 6", "GIVE");
        Due.is("accessor", x.accessor(0, 0, function, function, GETTER | SETTER), 1);
        Due.ends("getter", x, x.get(0, 0), Due.RETURNED, 6);
        Due.ends("setter", x, x.put(0, 0, 9, true), Due.RETURNED, 9);
        Due.is("setter was called", x.state(2), 2);
        Due.is("OBJECT 0 is no FUNCTION", x.accessor(0, 1, 0, function, GETTER), Due.REFUSED);
        Due.is("nor is one behind the last", x.accessor(0, 1, x.state(0), function, GETTER), Due.REFUSED);
    }
}
