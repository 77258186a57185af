/** Promises 1, 4, 7, 15 and 17: a new object, make, seal, of and clear. */
public final class ObjectsTest {
    public static void main(String[] args) {
        newObject();
        makeOfEachKind();
        makeRefuses();
        makeFull();
        ofTells();
        sealTakesAway();
        sealAnswers();
        clearLeavesCodes();
        Due.end("ObjectsTest");
    }

    private static void isAsAtFirst(String what, ObjectCore x) {
        Due.is(what + " objects", x.state(0), 3);
        Due.is(what + " activations", x.state(1), 0);
        Due.is(what + " begun", x.state(2), 0);
        Due.is(what + " frames", x.state(3), 0);
        Due.is(what + " result", x.result(), Due.UNDEFINED);
        for (int object = 0; object < 3; object++) {
            Due.is(what + " kind", x.of(object, 0), 0);
            Due.is(what + " prototype", x.of(object, 1), object == 0 ? -1 : 0);
            Due.is(what + " extensible", x.of(object, 2), 1);
            Due.is(what + " properties", x.of(object, 3), 0);
            Due.is(what + " each", x.each(object, 0), Due.REFUSED);
            for (int key = 0; key < 32; key++) {
                Due.is(what + " own", x.own(object, key, 0), 0);
            }
        }
        Due.is(what + " no object 3", x.of(3, 0), Due.REFUSED);
    }

    private static void newObject() {
        ObjectCore x = new ObjectCore();
        isAsAtFirst("new", x);
        for (int code = 0; code < 8; code++) {
            Due.is("new code", x.code(code, false), 0);
        }
        ObjectCore y = new ObjectCore();
        y.add(5, 0, 1, 0);
        y.add(5, 0, 2, 0);
        y.add(5, 9, 3, 0);
        int function = y.make(2, 5);
        Due.ends("no CODE is STRICT at first", y, y.call(function, 0, 0), Due.RETURNED, Due.UNDEFINED);
        isAsAtFirst("untouched by another", x);
    }

    private static void makeOfEachKind() {
        ObjectCore x = new ObjectCore();
        Due.is("PLAIN without", x.make(0, -1), 3);
        Due.is("PLAIN with 3", x.make(0, 3), 4);
        Due.is("ARRAY 0", x.make(1, 0), 5);
        Due.is("ARRAY 16", x.make(1, 16), 6);
        Due.is("FUNCTION 0", x.make(2, 0), 7);
        Due.is("FUNCTION 7", x.make(2, 7), 8);
        Due.is("objects", x.state(0), 9);
        int[] kinds = {0, 0, 1, 1, 2, 2};
        int[] prototypes = {-1, 3, 2, 2, 1, 1};
        int[] sizes = {0, 0, 1, 1, 0, 0};
        for (int i = 0; i < 6; i++) {
            Due.is("kind of " + (i + 3), x.of(i + 3, 0), kinds[i]);
            Due.is("prototype of " + (i + 3), x.of(i + 3, 1), prototypes[i]);
            Due.is("extensible " + (i + 3), x.of(i + 3, 2), 1);
            Due.is("size of " + (i + 3), x.of(i + 3, 3), sizes[i]);
        }
        Due.is("LENGTH is DATA", x.own(6, 16, 0), 1);
        Due.is("LENGTH WRITABLE alone", x.own(6, 16, 1), 1);
        Due.is("LENGTH 16", x.own(6, 16, 2), 16);
        Due.is("LENGTH 0", x.own(5, 16, 2), 0);
        Due.is("no elements", x.own(6, 0, 0), 0);
    }

    private static void makeRefuses() {
        ObjectCore x = new ObjectCore();
        int[][] wrong = {{0, -2}, {0, 3}, {1, -1}, {1, 17}, {2, -1}, {2, 8}, {-1, 0}, {3, 0},
            {0, Integer.MAX_VALUE}, {0, Integer.MIN_VALUE}, {1, Integer.MAX_VALUE}, {9, -1}};
        for (int[] pair : wrong) {
            Due.is("make(" + pair[0] + ", " + pair[1] + ")", x.make(pair[0], pair[1]), Due.REFUSED);
        }
        Due.is("none made", x.state(0), 3);
    }

    private static void makeFull() {
        ObjectCore x = new ObjectCore();
        for (int object = 3; object < 32; object++) {
            Due.is("make " + object, x.make(object % 3, 2), object);
        }
        for (int kind = 0; kind < 3; kind++) {
            Due.is("33rd", x.make(kind, 0), Due.FULL);
            Due.is("REFUSED before FULL", x.make(kind, 77), Due.REFUSED);
        }
        Due.is("REFUSED before FULL, kind", x.make(3, 0), Due.REFUSED);
        Due.is("still 32", x.state(0), 32);
        Due.is("PROTOTYPE 31 may be named", x.make(0, 31), Due.FULL);
        Due.is("clear", x.clear(), 32);
        Due.is("room again", x.make(1, 2), 3);
    }

    private static void ofTells() {
        ObjectCore x = new ObjectCore();
        x.define(1, 5, 1, 127);
        x.define(1, 6, 1, 0);
        Due.is("two", x.of(1, 3), 2);
        x.remove(1, 5);
        Due.is("one", x.of(1, 3), 1);
        Due.is("what 4", x.of(1, 4), Due.REFUSED);
        Due.is("what -1", x.of(1, -1), Due.REFUSED);
        Due.is("object 3", x.of(3, 0), Due.REFUSED);
        Due.is("object -1", x.of(-1, 3), Due.REFUSED);
        Due.is("object greatest", x.of(Integer.MAX_VALUE, 3), Due.REFUSED);
    }

    private static void sealTakesAway() {
        int[] dataFlags = {7, 3, 2};
        int[] accessorFlags = {6, 2, 2};
        for (int how = 0; how < 3; how++) {
            ObjectCore x = new ObjectCore();
            int function = x.make(2, 0);
            int object = x.make(0, 0);
            x.define(object, 4, 9, 127);
            x.accessor(object, 5, function, -1, 63);
            Due.is("seal " + how, x.seal(object, how), true);
            Due.is("not extensible", x.of(object, 2), 0);
            Due.is("DATA", x.own(object, 4, 1), dataFlags[how]);
            Due.is("VALUE stays", x.own(object, 4, 2), 9);
            Due.is("ACCESSOR", x.own(object, 5, 1), accessorFlags[how]);
            Due.is("GETTER stays", x.own(object, 5, 2), Due.object(function));
            Due.is("nothing new", x.define(object, 6, 1, 127), 0);
            Due.is("nothing new, accessor", x.accessor(object, 6, -1, -1, 9), 0);
            Due.is("another stays extensible", x.of(0, 2), 1);
            Due.is("another stays open", x.define(0, 4, 1, 127), 1);
            Due.is("another is on", x.own(0, 4, 1), 7);
        }
        ObjectCore x = new ObjectCore();
        int array = x.make(1, 2);
        x.seal(array, 2);
        Due.is("LENGTH not WRITABLE", x.own(array, 16, 1), 0);
    }

    private static void sealAnswers() {
        ObjectCore x = new ObjectCore();
        Due.is("how -1", x.seal(0, -1), false);
        Due.is("how 3", x.seal(0, 3), false);
        Due.is("object 3", x.seal(3, 0), false);
        Due.is("object -1", x.seal(-1, 0), false);
        Due.is("untouched", x.of(0, 2), 1);
        Due.is("twice", x.seal(0, 1) && x.seal(0, 0), true);
    }

    private static void clearLeavesCodes() {
        ObjectCore x = new ObjectCore();
        int function = Asm.function(x, 4, true, "FUNCTION 4", "NUMBER 1", "DUP", "PUT 0", "GIVE");
        Due.ends("STRICT before", x, x.call(function, 0, 0), Due.THROWN, Due.TYPE);
        Due.is("an ACTIVATION stays", x.state(1), 1);
        x.define(0, 3, 1, 127);
        x.seal(1, 0);
        x.make(1, 5);
        x.define(2, 3, 1, 0);
        Due.is("clear", x.clear(), 6);
        isAsAtFirst("cleared", x);
        function = x.make(2, 4);
        Due.is("numbered anew", function, 3);
        Due.ends("STRICT still", x, x.call(function, 0, 0), Due.THROWN, Due.TYPE);
        Due.is("clear again", x.clear(), 5);
        Due.is("clear at once", x.clear(), 3);
        Due.is("instructions stay", x.code(4, false), 5);
    }
}
