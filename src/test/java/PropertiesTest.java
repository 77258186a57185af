/** Promises 5, 6, 11, 13 and 14: define, accessor, remove, own and each. */
public final class PropertiesTest {
    private static final int W = 1, E = 2, C = 4, SAYS_W = 8, SAYS_E = 16, SAYS_C = 32, SAYS_VALUE = 64;
    private static final int GETTER = 1, SETTER = 8;

    public static void main(String[] args) {
        defineMakes();
        defineChanges();
        definedAgainstNotConfigurable();
        writableGoesOffOnly();
        notExtensible();
        defineRefuses();
        accessorMakes();
        accessorAgainstNotConfigurable();
        accessorRefuses();
        kindChanges();
        removeTakes();
        ownTells();
        eachGoesInOrder();
        Due.end("PropertiesTest");
    }

    private static void property(String what, ObjectCore x, int object, int key, long... want) {
        for (int i = 0; i < want.length; i++) {
            Due.is(what + ", own " + i, x.own(object, key, i), want[i]);
        }
    }

    private static void defineMakes() {
        ObjectCore x = new ObjectCore();
        Due.is("nothing said", x.define(0, 0, 5, 0), 1);
        property("nothing said", x, 0, 0, 1, 0, Due.UNDEFINED, Due.UNDEFINED, 0);
        Due.is("not said, so off", x.define(0, 31, 5, W | E | C), 1);
        property("not said, so off", x, 0, 31, 1, 0, Due.UNDEFINED, Due.UNDEFINED, 1);
        Due.is("VALUE", x.define(0, 2, -5, SAYS_VALUE), 1);
        property("VALUE", x, 0, 2, 1, 0, -5, Due.UNDEFINED, 2);
        for (int on = 0; on < 8; on++) {
            Due.is("all said", x.define(1, 8 + on, Due.object(2), on | 120), 1);
            property("all said", x, 1, 8 + on, 1, on, Due.object(2), Due.UNDEFINED, 4 * on);
            Due.is("WRITABLE said", x.define(1, 16 + on, 1, on | SAYS_W), 1);
            property("WRITABLE said", x, 1, 16 + on, 1, on & W, Due.UNDEFINED);
            Due.is("ENUMERABLE said", x.define(1, 24 + on, 1, on | SAYS_E), 1);
            property("ENUMERABLE said", x, 1, 24 + on, 1, on & E, Due.UNDEFINED);
            Due.is("CONFIGURABLE said", x.define(1, on, 1, on | SAYS_C), 1);
            property("CONFIGURABLE said", x, 1, on, 1, on & C, Due.UNDEFINED);
        }
        Due.is("32 PROPERTIES", x.of(1, 3), 32);
    }

    private static void defineChanges() {
        ObjectCore x = new ObjectCore();
        x.define(0, 3, 7, 127);
        x.define(0, 4, 7, 127);
        Due.is("VALUE alone", x.define(0, 3, 8, SAYS_VALUE), 1);
        property("VALUE alone", x, 0, 3, 1, 7, 8, Due.UNDEFINED, 0);
        Due.is("WRITABLE off", x.define(0, 3, 9, SAYS_W), 1);
        property("WRITABLE off", x, 0, 3, 1, 6, 8, Due.UNDEFINED, 0);
        Due.is("CONFIGURABLE, so VALUE", x.define(0, 3, 9, SAYS_VALUE), 1);
        property("CONFIGURABLE, so VALUE", x, 0, 3, 1, 6, 9);
        Due.is("CONFIGURABLE, so WRITABLE", x.define(0, 3, 9, SAYS_W | W), 1);
        Due.is("ENUMERABLE off", x.define(0, 3, 9, SAYS_E), 1);
        property("ENUMERABLE off", x, 0, 3, 1, 5, 9);
        Due.is("CONFIGURABLE off", x.define(0, 3, 9, SAYS_C), 1);
        property("CONFIGURABLE off", x, 0, 3, 1, 1, 9, Due.UNDEFINED, 0);
        Due.is("WRITABLE, so VALUE", x.define(0, 3, Due.NULL, SAYS_VALUE), 1);
        property("WRITABLE, so VALUE", x, 0, 3, 1, 1, Due.NULL, Due.UNDEFINED, 0);
    }

    private static void definedAgainstNotConfigurable() {
        ObjectCore x = new ObjectCore();
        int function = x.make(2, 0);
        x.define(0, 3, 7, SAYS_VALUE | SAYS_E | E);
        Due.is("CONFIGURABLE on", x.define(0, 3, 7, SAYS_C | C), 0);
        Due.is("CONFIGURABLE off", x.define(0, 3, 7, SAYS_C), 1);
        Due.is("ENUMERABLE other", x.define(0, 3, 7, SAYS_E), 0);
        Due.is("ENUMERABLE same", x.define(0, 3, 7, SAYS_E | E), 1);
        Due.is("ENUMERABLE on, not said", x.define(0, 3, 7, C | W), 1);
        Due.is("WRITABLE on", x.define(0, 3, 7, SAYS_W | W), 0);
        Due.is("WRITABLE off", x.define(0, 3, 7, SAYS_W), 1);
        Due.is("VALUE other", x.define(0, 3, 8, SAYS_VALUE), 0);
        Due.is("VALUE same", x.define(0, 3, 7, SAYS_VALUE), 1);
        Due.is("GETTER", x.accessor(0, 3, function, -1, GETTER), 0);
        Due.is("SETTER", x.accessor(0, 3, -1, -1, SETTER), 0);
        Due.is("neither, ENUMERABLE same", x.accessor(0, 3, -1, -1, SAYS_E | E), 1);
        Due.is("neither, ENUMERABLE other", x.accessor(0, 3, -1, -1, SAYS_E), 0);
        Due.is("same and then other", x.define(0, 3, 7, SAYS_VALUE | SAYS_E), 0);
        property("as it was", x, 0, 3, 1, 2, 7, Due.UNDEFINED, 0);
        x.define(0, 4, 7, SAYS_VALUE);
        Due.is("ENUMERABLE on", x.define(0, 4, 7, SAYS_E | E), 0);
        property("still off", x, 0, 4, 1, 0, 7);
    }

    private static void writableGoesOffOnly() {
        ObjectCore x = new ObjectCore();
        x.define(0, 3, 7, SAYS_VALUE | SAYS_W | W);
        Due.is("on as it is", x.define(0, 3, 7, SAYS_W | W), 1);
        Due.is("off, with a VALUE", x.define(0, 3, 8, SAYS_VALUE | SAYS_W), 1);
        property("off, with a VALUE", x, 0, 3, 1, 0, 8);
        Due.is("on again", x.define(0, 3, 8, SAYS_W | W), 0);
        property("off still", x, 0, 3, 1, 0, 8);
    }

    private static void notExtensible() {
        ObjectCore x = new ObjectCore();
        x.define(0, 3, 7, 127);
        x.seal(0, 0);
        Due.is("none there", x.define(0, 4, 7, 127), 0);
        Due.is("none there, nothing said", x.define(0, 4, 7, 0), 0);
        Due.is("none there, accessor", x.accessor(0, 4, -1, -1, GETTER), 0);
        Due.is("one there", x.define(0, 3, 8, 127), 1);
        Due.is("none made", x.of(0, 3), 1);
    }

    private static void defineRefuses() {
        ObjectCore x = new ObjectCore();
        Due.is("object -1", x.define(-1, 0, 0, 127), Due.REFUSED);
        Due.is("object 3", x.define(3, 0, 0, 127), Due.REFUSED);
        Due.is("key -1", x.define(0, -1, 0, 127), Due.REFUSED);
        Due.is("key 32", x.define(0, 32, 0, 127), Due.REFUSED);
        Due.is("flags -1", x.define(0, 0, 0, -1), Due.REFUSED);
        Due.is("flags 128", x.define(0, 0, 0, 128), Due.REFUSED);
        long[] none = {Due.object(3), Due.object(-1), Due.UNDEFINED - 1, Due.RANGE + 1, 1L << 31,
            -(1L << 31) - 1, Long.MAX_VALUE, Long.MIN_VALUE, Due.object(0) * 2};
        for (long value : none) {
            Due.is("value " + value, x.define(0, 0, value, 127), Due.REFUSED);
            Due.is("value not said " + value, x.define(1, 0, value, 63), 1);
        }
        Due.is("nothing made", x.of(0, 3), 0);
        long[] some = {-(1L << 31), (1L << 31) - 1, 0, Due.UNDEFINED, Due.NULL, Due.FALSE, Due.TRUE,
            Due.TYPE, Due.RANGE, Due.object(0), Due.object(2)};
        for (long value : some) {
            Due.is("value " + value, x.define(0, 0, value, 127), 1);
            Due.is("is there " + value, x.own(0, 0, 2), value);
        }
    }

    private static void accessorMakes() {
        ObjectCore x = new ObjectCore();
        int f = x.make(2, 0);
        int g = x.make(2, 1);
        Due.is("both", x.accessor(0, 3, f, g, 63), 1);
        property("both", x, 0, 3, 2, 6, Due.object(f), Due.object(g), 0);
        Due.is("GETTER", x.accessor(0, 4, f, g, GETTER), 1);
        property("GETTER", x, 0, 4, 2, 0, Due.object(f), Due.UNDEFINED, 1);
        Due.is("SETTER", x.accessor(0, 5, f, g, SETTER), 1);
        property("SETTER", x, 0, 5, 2, 0, Due.UNDEFINED, Due.object(g), 2);
        Due.is("UNDEFINED both", x.accessor(0, 6, -1, -1, GETTER | SETTER), 1);
        property("UNDEFINED both", x, 0, 6, 2, 0, Due.UNDEFINED, Due.UNDEFINED, 3);
        Due.is("neither makes DATA", x.accessor(0, 7, f, g, SAYS_E | E | C), 1);
        property("neither makes DATA", x, 0, 7, 1, 2, Due.UNDEFINED, Due.UNDEFINED, 4);
        Due.is("neither of an ACCESSOR", x.accessor(0, 3, -1, -1, SAYS_E), 1);
        property("neither of an ACCESSOR", x, 0, 3, 2, 4, Due.object(f), Due.object(g), 0);
        Due.is("SETTER alone", x.accessor(0, 3, -1, f, SETTER), 1);
        property("SETTER alone", x, 0, 3, 2, 4, Due.object(f), Due.object(f), 0);
        Due.is("GETTER alone", x.accessor(0, 3, -1, g, GETTER), 1);
        property("GETTER alone", x, 0, 3, 2, 4, Due.UNDEFINED, Due.object(f), 0);
        Due.is("define keeps what it is", x.define(0, 3, 5, SAYS_E | E), 1);
        property("define keeps what it is", x, 0, 3, 2, 6, Due.UNDEFINED, Due.object(f), 0);
    }

    private static void accessorAgainstNotConfigurable() {
        ObjectCore x = new ObjectCore();
        int f = x.make(2, 0);
        int g = x.make(2, 1);
        x.accessor(0, 3, f, g, GETTER | SETTER | SAYS_E | E);
        Due.is("same", x.accessor(0, 3, f, g, GETTER | SETTER | SAYS_E | E | SAYS_C), 1);
        Due.is("GETTER other", x.accessor(0, 3, g, g, GETTER), 0);
        Due.is("GETTER UNDEFINED", x.accessor(0, 3, -1, g, GETTER | SETTER), 0);
        Due.is("SETTER other", x.accessor(0, 3, f, f, SETTER), 0);
        Due.is("SETTER UNDEFINED", x.accessor(0, 3, f, -1, GETTER | SETTER), 0);
        Due.is("not said", x.accessor(0, 3, g, f, 0), 1);
        Due.is("ENUMERABLE other", x.accessor(0, 3, f, g, SAYS_E), 0);
        Due.is("CONFIGURABLE on", x.accessor(0, 3, f, g, SAYS_C | C), 0);
        Due.is("VALUE", x.define(0, 3, Due.object(f), SAYS_VALUE), 0);
        Due.is("WRITABLE off", x.define(0, 3, 0, SAYS_W), 0);
        Due.is("ENUMERABLE same", x.define(0, 3, 0, SAYS_E | E), 1);
        Due.is("ENUMERABLE other by define", x.define(0, 3, 0, SAYS_E), 0);
        property("as it was", x, 0, 3, 2, 2, Due.object(f), Due.object(g), 0);
    }

    private static void accessorRefuses() {
        ObjectCore x = new ObjectCore();
        int f = x.make(2, 0);
        Due.is("object -1", x.accessor(-1, 0, f, f, 9), Due.REFUSED);
        Due.is("object 4", x.accessor(4, 0, f, f, 9), Due.REFUSED);
        Due.is("key -1", x.accessor(0, -1, f, f, 9), Due.REFUSED);
        Due.is("key 32", x.accessor(0, 32, f, f, 9), Due.REFUSED);
        Due.is("flags -1", x.accessor(0, 0, f, f, -1), Due.REFUSED);
        Due.is("flags 64", x.accessor(0, 0, f, f, 64), Due.REFUSED);
        int[] none = {0, 2, 4, 32, -2, Integer.MIN_VALUE, Integer.MAX_VALUE};
        for (int wrong : none) {
            Due.is("getter " + wrong, x.accessor(0, 0, wrong, f, 9), Due.REFUSED);
            Due.is("setter " + wrong, x.accessor(0, 0, f, wrong, 9), Due.REFUSED);
            Due.is("getter not said " + wrong, x.accessor(1, 0, wrong, f, 8 + 32 + 4), 1);
            Due.is("setter not said " + wrong, x.accessor(1, 0, f, wrong, 1), 1);
        }
        Due.is("nothing made", x.of(0, 3), 0);
        property("SETTER and GETTER", x, 1, 0, 2, 4, Due.object(f), Due.object(f));
        x.seal(0, 0);
        Due.is("REFUSED before 0", x.accessor(0, 0, 0, f, 9), Due.REFUSED);
        Due.is("REFUSED before 0, define", x.define(0, 0, Due.object(9), 127), Due.REFUSED);
    }

    private static void kindChanges() {
        ObjectCore x = new ObjectCore();
        int f = x.make(2, 0);
        x.define(0, 2, 1, 127);
        x.define(0, 3, 7, 127);
        x.define(0, 4, 7, 127);
        Due.is("to ACCESSOR", x.accessor(0, 3, f, f, SETTER), 1);
        property("to ACCESSOR", x, 0, 3, 2, 6, Due.UNDEFINED, Due.object(f), 1);
        Due.is("back by VALUE", x.define(0, 3, 5, SAYS_VALUE), 1);
        property("back by VALUE", x, 0, 3, 1, 6, 5, Due.UNDEFINED, 1);
        Due.is("to ACCESSOR again", x.accessor(0, 3, f, f, GETTER | SAYS_E), 1);
        property("to ACCESSOR again", x, 0, 3, 2, 4, Due.object(f), Due.UNDEFINED, 1);
        Due.is("back by WRITABLE on", x.define(0, 3, 5, SAYS_W | W), 1);
        property("back by WRITABLE on", x, 0, 3, 1, 5, Due.UNDEFINED, Due.UNDEFINED, 1);
        x.accessor(0, 3, f, f, GETTER | SETTER);
        Due.is("back by WRITABLE off", x.define(0, 3, 5, SAYS_W | SAYS_C), 1);
        property("back by WRITABLE off", x, 0, 3, 1, 0, Due.UNDEFINED, Due.UNDEFINED, 1);
        Due.is("on the same footing as others", x.own(0, 4, 4), 2);
    }

    private static void removeTakes() {
        ObjectCore x = new ObjectCore();
        for (int key = 10; key < 14; key++) {
            x.define(0, key, key, 127);
        }
        x.define(0, 20, 1, 127 - C);
        Due.is("there", x.remove(0, 11), 1);
        Due.is("not there", x.remove(0, 11), 1);
        Due.is("gone", x.own(0, 11, 0), 0);
        Due.is("four left", x.of(0, 3), 4);
        Due.is("the next moves up", x.own(0, 12, 4), 1);
        Due.is("the last moves up", x.own(0, 20, 4), 3);
        Due.is("not CONFIGURABLE", x.remove(0, 20), 0);
        Due.is("it is there", x.own(0, 20, 2), 1);
        Due.is("of a PROTOTYPE", x.remove(1, 12), 1);
        Due.is("that is there", x.own(0, 12, 2), 12);
        x.define(0, 11, 5, SAYS_VALUE);
        property("made anew, as the last", x, 0, 11, 1, 0, 5, Due.UNDEFINED, 4);
        x.seal(0, 0);
        Due.is("not EXTENSIBLE, but CONFIGURABLE", x.remove(0, 10), 1);
        Due.is("object -1", x.remove(-1, 0), Due.REFUSED);
        Due.is("object 3", x.remove(3, 0), Due.REFUSED);
        Due.is("key -1", x.remove(0, -1), Due.REFUSED);
        Due.is("key 32", x.remove(0, 32), Due.REFUSED);
        int array = x.make(1, 4);
        Due.is("LENGTH", x.remove(array, 16), 0);
        x.define(array, 3, 1, 127);
        Due.is("an element", x.remove(array, 3), 1);
        Due.is("LENGTH as it was", x.own(array, 16, 2), 4);
    }

    private static void ownTells() {
        ObjectCore x = new ObjectCore();
        x.define(0, 3, 7, 127);
        property("DATA", x, 0, 3, 1, 7, 7, Due.UNDEFINED, 0, Due.UNDEFINED);
        Due.is("what -1", x.own(0, 3, -1), Due.UNDEFINED);
        property("none", x, 0, 4, 0, Due.UNDEFINED, Due.UNDEFINED, Due.UNDEFINED, Due.UNDEFINED, Due.UNDEFINED);
        property("of a PROTOTYPE", x, 1, 3, 0, Due.UNDEFINED, Due.UNDEFINED, Due.UNDEFINED, Due.UNDEFINED);
        for (int what = -1; what < 6; what++) {
            Due.is("object -1", x.own(-1, 3, what), Due.UNDEFINED);
            Due.is("object 3", x.own(3, 3, what), Due.UNDEFINED);
            Due.is("key -1", x.own(0, -1, what), Due.UNDEFINED);
            Due.is("key 32", x.own(0, 32, what), Due.UNDEFINED);
        }
    }

    private static void eachGoesInOrder() {
        ObjectCore x = new ObjectCore();
        int parent = x.make(0, 0);
        int child = x.make(0, parent);
        int on = 127;
        int hidden = 127 - E;
        x.define(child, 20, 1, on);
        x.define(child, 5, 1, hidden);
        x.define(child, 3, 1, on);
        x.define(parent, 3, 1, on);
        x.define(parent, 5, 1, on);
        x.define(parent, 9, 1, on);
        x.define(parent, 1, 1, hidden);
        x.define(0, 1, 1, on);
        x.define(0, 30, 1, on);
        x.accessor(0, 0, -1, -1, 63);
        int[] due = {20, 3, 9, 30, 0};
        for (int k = 0; k < due.length; k++) {
            Due.is("each " + k, x.each(child, k), due[k]);
        }
        Due.is("each behind the last", x.each(child, 5), Due.REFUSED);
        Due.is("each of the parent", x.each(parent, 1), 5);
        Due.is("each greatest", x.each(child, Integer.MAX_VALUE), Due.REFUSED);
        Due.is("each -1", x.each(child, -1), Due.REFUSED);
        Due.is("each least", x.each(child, Integer.MIN_VALUE), Due.REFUSED);
        Due.is("object -1", x.each(-1, 0), Due.REFUSED);
        Due.is("object 5", x.each(5, 0), Due.REFUSED);
        x.remove(child, 20);
        x.define(child, 20, 1, on);
        Due.is("made anew", x.each(child, 1), 20);
        x.remove(child, 5);
        Due.is("no longer hidden", x.each(child, 2), 5);
    }
}
