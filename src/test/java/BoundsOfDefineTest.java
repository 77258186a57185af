import java.util.function.ToIntFunction;

/** Terms on DEFINE, and promises 5 and 6: each REFUSAL with what is just allowed, and what is not looked at. */
public final class BoundsOfDefineTest {
    private static final int W = 1, E = 2, C = 4, SAYS_W = 8, SAYS_E = 16, SAYS_C = 32, SAYS_VALUE = 64, ON = 127;
    private static final int GETTER = 1, SETTER = 8;
    private static final int KEY = 3, F = 3, G = 4;
    private static final long U = Due.UNDEFINED;

    public static void main(String[] args) {
        notExtensible();
        configurableOn();
        enumerableOther();
        kindOther();
        getterOrSetterOther();
        valueOrWritableOther();
        configurableAllowsAll();
        nothingChanges();
        made();
        asSaidThen();
        kindChanges();
        whatMakesAKind();
        answers();
        defineRefused();
        defineFlags();
        defineValueOnlyIfSaid();
        accessorRefused();
        accessorFlags();
        accessorFunctionsOnlyIfSaid();
        refusedBeforeAllElse();
        Due.end("BoundsOfDefineTest");
    }

    /** FUNCTIONS F and G, and no PROPERTY. */
    private static ObjectCore bare() {
        ObjectCore x = new ObjectCore();
        x.make(2, 0);
        x.make(2, 1);
        return x;
    }

    /** DATA of OBJECT 0 with the VALUE 7 and just these on. */
    private static ObjectCore data(int on) {
        ObjectCore x = bare();
        x.define(0, KEY, 7, SAYS_VALUE | SAYS_W | SAYS_E | SAYS_C | on);
        return x;
    }

    /** An ACCESSOR of OBJECT 0 with the GETTER F and the SETTER G, and just these on. */
    private static ObjectCore pair(int on) {
        ObjectCore x = bare();
        x.accessor(0, KEY, F, G, GETTER | SETTER | SAYS_E | SAYS_C | on);
        return x;
    }

    private static void refused(String what, ObjectCore x, ToIntFunction<ObjectCore> call, int answer) {
        String before = Picture.object(x, 0);
        Due.is(what, call.applyAsInt(x), answer);
        Due.same(what + ", nothing changes", Picture.object(x, 0), before);
    }

    private static void refused(String what, ObjectCore x, ToIntFunction<ObjectCore> call) {
        refused(what, x, call, 0);
    }

    private static void done(String what, ObjectCore x, ToIntFunction<ObjectCore> call, long... own) {
        Due.is(what, call.applyAsInt(x), 1);
        Due.same(what, Picture.property(x, 0, KEY), Picture.of(own));
    }

    private static void notExtensible() {
        Due.says("there is none and the OBJECT is not EXTENSIBLE");
        for (int how = 0; how < 3; how++) {
            int[] flags = {0, SAYS_W, SAYS_E, SAYS_C, SAYS_VALUE, ON};
            for (int said : flags) {
                ObjectCore x = bare();
                x.seal(0, how);
                refused("define " + said, x, y -> y.define(0, KEY, 7, said));
            }
            int[] accessorFlags = {0, GETTER, SETTER, SAYS_E, SAYS_C, 63};
            for (int said : accessorFlags) {
                ObjectCore x = bare();
                x.seal(0, how);
                refused("accessor " + said, x, y -> y.accessor(0, KEY, F, G, said));
            }
        }
        ObjectCore x = data(W | E | C);
        x.seal(0, 0);
        done("but there is one", x, y -> y.define(0, KEY, 8, SAYS_VALUE), 1, 7, 8, U, 0);
        x.remove(0, KEY);
        refused("it was there", x, y -> y.define(0, KEY, 8, SAYS_VALUE));
    }

    private static void configurableOn() {
        Due.says("there is one that is not CONFIGURABLE, and CONFIGURABLE is said on");
        for (int on = 0; on < 4; on++) {
            refused("DATA " + on, data(on), y -> y.define(0, KEY, 7, SAYS_C | C));
            done("off, DATA " + on, data(on), y -> y.define(0, KEY, 7, SAYS_C), 1, on, 7, U, 0);
            done("on, not said, DATA " + on, data(on), y -> y.define(0, KEY, 7, C), 1, on, 7, U, 0);
            refused("by accessor, DATA " + on, data(on), y -> y.accessor(0, KEY, F, G, SAYS_C | C));
        }
        for (int on = 0; on < 4; on += 2) {
            refused("ACCESSOR " + on, pair(on), y -> y.accessor(0, KEY, F, G, SAYS_C | C));
            refused("by define, ACCESSOR " + on, pair(on), y -> y.define(0, KEY, 7, SAYS_C | C));
            done("off, ACCESSOR " + on, pair(on), y -> y.accessor(0, KEY, F, G, SAYS_C), 2, on,
                    Due.object(F), Due.object(G), 0);
            done("on, not said, ACCESSOR " + on, pair(on), y -> y.accessor(0, KEY, F, G, C), 2, on,
                    Due.object(F), Due.object(G), 0);
        }
    }

    private static void enumerableOther() {
        Due.says("or ENUMERABLE other than it is");
        for (int writable = 0; writable < 2; writable++) {
            int off = writable;
            int on = writable | E;
            refused("on, DATA", data(off), y -> y.define(0, KEY, 7, SAYS_E | E));
            refused("off, DATA", data(on), y -> y.define(0, KEY, 7, SAYS_E));
            done("on as it is, DATA", data(on), y -> y.define(0, KEY, 7, SAYS_E | E), 1, on, 7, U, 0);
            done("off as it is, DATA", data(off), y -> y.define(0, KEY, 7, SAYS_E), 1, off, 7, U, 0);
            done("on, not said, DATA", data(off), y -> y.define(0, KEY, 7, E), 1, off, 7, U, 0);
            done("off, not said, DATA", data(on), y -> y.define(0, KEY, 7, 0), 1, on, 7, U, 0);
        }
        refused("on, ACCESSOR", pair(0), y -> y.accessor(0, KEY, F, G, SAYS_E | E));
        refused("off, ACCESSOR", pair(E), y -> y.accessor(0, KEY, F, G, SAYS_E));
        refused("on, ACCESSOR, by define", pair(0), y -> y.define(0, KEY, 7, SAYS_E | E));
        refused("off, ACCESSOR, by define", pair(E), y -> y.define(0, KEY, 7, SAYS_E));
        done("on as it is, ACCESSOR", pair(E), y -> y.accessor(0, KEY, F, G, SAYS_E | E), 2, E,
                Due.object(F), Due.object(G), 0);
        done("off as it is, ACCESSOR", pair(0), y -> y.define(0, KEY, 7, SAYS_E), 2, 0,
                Due.object(F), Due.object(G), 0);
    }

    private static void kindOther() {
        Due.says("or it would become DATA from an ACCESSOR or the other way round");
        for (int on = 0; on < 4; on += 2) {
            refused("by VALUE", pair(on), y -> y.define(0, KEY, 7, SAYS_VALUE));
            refused("by VALUE UNDEFINED", pair(on), y -> y.define(0, KEY, U, SAYS_VALUE));
            refused("by a VALUE that is the GETTER", pair(on), y -> y.define(0, KEY, Due.object(F), SAYS_VALUE));
            refused("by WRITABLE on", pair(on), y -> y.define(0, KEY, 7, SAYS_W | W));
            refused("by WRITABLE off", pair(on), y -> y.define(0, KEY, 7, SAYS_W));
        }
        for (int on = 0; on < 4; on++) {
            refused("by GETTER", data(on), y -> y.accessor(0, KEY, F, G, GETTER));
            refused("by SETTER", data(on), y -> y.accessor(0, KEY, F, G, SETTER));
            refused("by GETTER UNDEFINED", data(on), y -> y.accessor(0, KEY, -1, -1, GETTER));
            refused("by SETTER UNDEFINED", data(on), y -> y.accessor(0, KEY, -1, -1, SETTER));
            done("neither said", data(on), y -> y.accessor(0, KEY, F, G, 0), 1, on, 7, U, 0);
        }
        done("neither said, ACCESSOR", pair(0), y -> y.define(0, KEY, 7, W), 2, 0, Due.object(F), Due.object(G), 0);
        // Not even where the DATA has what the GETTER would be.
        ObjectCore x = bare();
        x.define(0, KEY, Due.object(F), SAYS_VALUE);
        refused("by a GETTER that is the VALUE", x, y -> y.accessor(0, KEY, F, G, GETTER));
    }

    private static void getterOrSetterOther() {
        Due.says("or GETTER or SETTER is said other than it is");
        refused("GETTER other", pair(0), y -> y.accessor(0, KEY, G, G, GETTER));
        refused("GETTER UNDEFINED", pair(0), y -> y.accessor(0, KEY, -1, G, GETTER));
        refused("SETTER other", pair(0), y -> y.accessor(0, KEY, F, F, SETTER));
        refused("SETTER UNDEFINED", pair(0), y -> y.accessor(0, KEY, F, -1, SETTER));
        refused("GETTER same, SETTER other", pair(0), y -> y.accessor(0, KEY, F, F, GETTER | SETTER));
        refused("GETTER other, SETTER same", pair(0), y -> y.accessor(0, KEY, G, G, GETTER | SETTER));
        done("both same", pair(0), y -> y.accessor(0, KEY, F, G, GETTER | SETTER), 2, 0,
                Due.object(F), Due.object(G), 0);
        done("not said", pair(0), y -> y.accessor(0, KEY, G, F, 0), 2, 0, Due.object(F), Due.object(G), 0);
        ObjectCore x = bare();
        x.accessor(0, KEY, -1, -1, GETTER);
        refused("GETTER instead of UNDEFINED", x, y -> y.accessor(0, KEY, F, -1, GETTER));
        refused("SETTER instead of UNDEFINED", x, y -> y.accessor(0, KEY, -1, F, SETTER));
        done("UNDEFINED as they are", x, y -> y.accessor(0, KEY, -1, -1, GETTER | SETTER), 2, 0, U, U, 0);
    }

    private static void valueOrWritableOther() {
        Due.says("or it is DATA, neither CONFIGURABLE nor WRITABLE, and WRITABLE is said on,"
                + " or a VALUE other than it has");
        for (int on = 0; on < 4; on += 2) {
            refused("WRITABLE on", data(on), y -> y.define(0, KEY, 7, SAYS_W | W));
            refused("VALUE other", data(on), y -> y.define(0, KEY, 8, SAYS_VALUE));
            refused("VALUE UNDEFINED", data(on), y -> y.define(0, KEY, U, SAYS_VALUE));
            done("WRITABLE off", data(on), y -> y.define(0, KEY, 8, SAYS_W), 1, on, 7, U, 0);
            done("WRITABLE on, not said", data(on), y -> y.define(0, KEY, 8, W), 1, on, 7, U, 0);
            done("VALUE same", data(on), y -> y.define(0, KEY, 7, SAYS_VALUE | SAYS_W), 1, on, 7, U, 0);
        }
        done("WRITABLE: VALUE other", data(W), y -> y.define(0, KEY, 8, SAYS_VALUE), 1, W, 8, U, 0);
        done("WRITABLE: WRITABLE off", data(W), y -> y.define(0, KEY, 8, SAYS_W), 1, 0, 7, U, 0);
        done("WRITABLE: both", data(W), y -> y.define(0, KEY, 8, SAYS_W | SAYS_VALUE), 1, 0, 8, U, 0);
        done("WRITABLE: on", data(W), y -> y.define(0, KEY, 8, SAYS_W | W), 1, W, 7, U, 0);
        done("CONFIGURABLE: VALUE other", data(C), y -> y.define(0, KEY, 8, SAYS_VALUE), 1, C, 8, U, 0);
        done("CONFIGURABLE: WRITABLE on", data(C), y -> y.define(0, KEY, 8, SAYS_W | W), 1, C | W, 7, U, 0);
        ObjectCore x = bare();
        x.define(0, KEY, 0, 0);
        refused("a NUMBER instead of UNDEFINED", x, y -> y.define(0, KEY, 0, SAYS_VALUE));
        done("UNDEFINED as it is", x, y -> y.define(0, KEY, U, SAYS_VALUE), 1, 0, U, U, 0);
    }

    private static void configurableAllowsAll() {
        Due.says("there is one that is not CONFIGURABLE");
        for (int on = C; on <= (W | E | C); on++) {
            int left = on & (W | C);
            done("CONFIGURABLE on", data(on), y -> y.define(0, KEY, 7, SAYS_C | C), 1, on, 7, U, 0);
            done("CONFIGURABLE off", data(on), y -> y.define(0, KEY, 7, SAYS_C), 1, on - C, 7, U, 0);
            done("ENUMERABLE on", data(on), y -> y.define(0, KEY, 7, SAYS_E | E), 1, on | E, 7, U, 0);
            done("ENUMERABLE off", data(on), y -> y.define(0, KEY, 7, SAYS_E), 1, left, 7, U, 0);
            done("a GETTER", data(on), y -> y.accessor(0, KEY, G, F, GETTER), 2, on & (E | C), Due.object(G), U, 0);
        }
        done("another GETTER", pair(C), y -> y.accessor(0, KEY, G, G, GETTER), 2, C, Due.object(G), Due.object(G), 0);
        done("another SETTER", pair(C), y -> y.accessor(0, KEY, F, -1, SETTER), 2, C, Due.object(F), U, 0);
        done("a VALUE", pair(C), y -> y.define(0, KEY, 8, SAYS_VALUE), 1, C, 8, U, 0);
    }

    private static void nothingChanges() {
        Due.says("It is REFUSED, and nothing changes");
        refused("VALUE with CONFIGURABLE on", data(W), y -> y.define(0, KEY, 8, SAYS_VALUE | SAYS_C | C));
        refused("VALUE with ENUMERABLE on", data(W), y -> y.define(0, KEY, 8, SAYS_VALUE | SAYS_E | E));
        refused("WRITABLE off with ENUMERABLE off", data(W | E), y -> y.define(0, KEY, 8, SAYS_W | SAYS_E));
        refused("all on", data(W), y -> y.define(0, KEY, 8, ON));
        refused("a pair, all on", pair(E), y -> y.accessor(0, KEY, G, F, 63));
        ObjectCore x = bare();
        int array = x.make(1, 2);
        x.seal(array, 0);
        String before = Picture.object(x, array);
        Due.is("an INDEX below LENGTH", x.define(array, 1, 5, ON), 0);
        Due.is("an INDEX at LENGTH", x.define(array, 2, 5, ON), 0);
        Due.same("the ARRAY", Picture.object(x, array), before);
    }

    private static void made() {
        Due.says("Else it is made (what is not said is UNDEFINED, or off; DATA, if neither kind is said)");
        done("nothing said", bare(), y -> y.define(0, KEY, 7, 0), 1, 0, U, U, 0);
        done("on, but not said", bare(), y -> y.define(0, KEY, 7, W | E | C), 1, 0, U, U, 0);
        done("nothing said by accessor", bare(), y -> y.accessor(0, KEY, F, G, 0), 1, 0, U, U, 0);
        done("neither kind", bare(), y -> y.accessor(0, KEY, F, G, SAYS_E | E | SAYS_C | C), 1, E | C, U, U, 0);
        done("VALUE", bare(), y -> y.define(0, KEY, 7, SAYS_VALUE | W | E | C), 1, 0, 7, U, 0);
        done("WRITABLE", bare(), y -> y.define(0, KEY, 7, SAYS_W | W | E | C), 1, W, U, U, 0);
        done("ENUMERABLE", bare(), y -> y.define(0, KEY, 7, SAYS_E | W | E | C), 1, E, U, U, 0);
        done("CONFIGURABLE", bare(), y -> y.define(0, KEY, 7, SAYS_C | W | E | C), 1, C, U, U, 0);
        done("all", bare(), y -> y.define(0, KEY, 7, ON), 1, 7, 7, U, 0);
        done("GETTER", bare(), y -> y.accessor(0, KEY, F, G, GETTER | E | C), 2, 0, Due.object(F), U, 0);
        done("SETTER", bare(), y -> y.accessor(0, KEY, F, G, SETTER | E | C), 2, 0, U, Due.object(G), 0);
        done("both", bare(), y -> y.accessor(0, KEY, F, G, 63), 2, E | C, Due.object(F), Due.object(G), 0);
        // What was there once is forgotten.
        ObjectCore x = data(W | E | C);
        x.remove(0, KEY);
        done("made anew", x, y -> y.define(0, KEY, 7, 0), 1, 0, U, U, 0);
        ObjectCore z = pair(E | C);
        z.remove(0, KEY);
        done("made anew, a SETTER", z, y -> y.accessor(0, KEY, F, F, SETTER), 2, 0, U, Due.object(F), 0);
    }

    private static void asSaidThen() {
        Due.says("or is as said then, with what is not said as it was");
        for (int on = C; on <= (W | E | C); on++) {
            done("nothing", data(on), y -> y.define(0, KEY, 8, 0), 1, on, 7, U, 0);
            done("VALUE", data(on), y -> y.define(0, KEY, 8, SAYS_VALUE), 1, on, 8, U, 0);
            done("WRITABLE on", data(on), y -> y.define(0, KEY, 8, SAYS_W | W), 1, on | W, 7, U, 0);
            done("WRITABLE off", data(on), y -> y.define(0, KEY, 8, SAYS_W), 1, on & (E | C), 7, U, 0);
        }
        done("GETTER", pair(E | C), y -> y.accessor(0, KEY, -1, -1, GETTER), 2, E | C, U, Due.object(G), 0);
        done("SETTER", pair(E | C), y -> y.accessor(0, KEY, -1, -1, SETTER), 2, E | C, Due.object(F), U, 0);
        done("ENUMERABLE", pair(E | C), y -> y.define(0, KEY, 8, SAYS_E), 2, C, Due.object(F), Due.object(G), 0);
        done("CONFIGURABLE", pair(E | C), y -> y.accessor(0, KEY, -1, -1, SAYS_C), 2, E,
                Due.object(F), Due.object(G), 0);
    }

    private static void kindChanges() {
        Due.says("if its kind changes that is UNDEFINED, or off, but for ENUMERABLE and CONFIGURABLE");
        for (int on = C; on <= (W | E | C); on++) {
            int kept = on & (E | C);
            done("by GETTER", data(on), y -> y.accessor(0, KEY, F, G, GETTER), 2, kept, Due.object(F), U, 0);
            done("by SETTER", data(on), y -> y.accessor(0, KEY, F, G, SETTER), 2, kept, U, Due.object(G), 0);
            done("by GETTER, ENUMERABLE off", data(on), y -> y.accessor(0, KEY, F, G, GETTER | SAYS_E), 2, C,
                    Due.object(F), U, 0);
            done("by SETTER, CONFIGURABLE off", data(on), y -> y.accessor(0, KEY, F, G, SETTER | SAYS_C), 2, kept - C,
                    U, Due.object(G), 0);
        }
        for (int on = C; on <= (W | E | C); on += E) {
            int kept = on;
            done("by VALUE", pair(on), y -> y.define(0, KEY, 7, SAYS_VALUE), 1, kept, 7, U, 0);
            done("by WRITABLE on", pair(on), y -> y.define(0, KEY, 7, SAYS_W | W), 1, kept | W, U, U, 0);
            done("by WRITABLE off", pair(on), y -> y.define(0, KEY, 7, SAYS_W), 1, kept, U, U, 0);
        }
        // There and back: neither the old VALUE nor WRITABLE, nor the old pair comes again.
        ObjectCore x = data(W | E | C);
        x.accessor(0, KEY, F, G, GETTER | SETTER);
        done("back to DATA", x, y -> y.define(0, KEY, 7, SAYS_W), 1, E | C, U, U, 0);
        done("on to an ACCESSOR", x, y -> y.accessor(0, KEY, G, G, SETTER), 2, E | C, U, Due.object(G), 0);
    }

    private static void whatMakesAKind() {
        Due.says("Saying a VALUE or WRITABLE makes a PROPERTY DATA, saying a GETTER or a SETTER makes it an ACCESSOR");
        for (int said = 0; said <= ON; said++) {
            boolean data = (said & (SAYS_VALUE | SAYS_W)) != 0;
            ObjectCore x = pair(C);
            Due.is("define " + said, x.define(0, KEY, 7, said), 1);
            Due.is("of an ACCESSOR, " + said, x.own(0, KEY, 0), data ? 1 : 2);
            ObjectCore y = bare();
            Due.is("define of none " + said, y.define(0, KEY, 7, said), 1);
            Due.is("of none, " + said, y.own(0, KEY, 0), 1);
        }
        for (int flags = 0; flags < 64; flags++) {
            boolean accessor = (flags & (GETTER | SETTER)) != 0;
            ObjectCore x = data(C);
            Due.is("accessor " + flags, x.accessor(0, KEY, F, G, flags), 1);
            Due.is("of DATA, " + flags, x.own(0, KEY, 0), accessor ? 2 : 1);
            ObjectCore y = bare();
            Due.is("accessor of none " + flags, y.accessor(0, KEY, F, G, flags), 1);
            Due.is("of none, " + flags, y.own(0, KEY, 0), accessor ? 2 : 1);
        }
    }

    private static void answers() {
        Due.says("1 if it was done, 0 if it is REFUSED");
        Due.is("done", data(0).define(0, KEY, 7, SAYS_VALUE), 1);
        Due.is("not done", data(0).define(0, KEY, 8, SAYS_VALUE), 0);
        Due.is("accessor done", pair(0).accessor(0, KEY, F, G, GETTER), 1);
        Due.is("accessor not done", pair(0).accessor(0, KEY, G, G, GETTER), 0);
        Due.says("FULL if RANGE would be thrown");
        ObjectCore x = bare();
        int array = x.make(1, 2);
        Due.is("17", x.define(array, 16, 17, SAYS_VALUE), Due.FULL);
        Due.is("-1", x.define(array, 16, -1, SAYS_VALUE), Due.FULL);
        Due.is("16", x.define(array, 16, 16, SAYS_VALUE), 1);
        Due.is("0", x.define(array, 16, 0, SAYS_VALUE), 1);
        Due.is("not said", x.define(array, 16, 17, SAYS_W | W), 1);
        Due.is("another KEY", x.define(array, 15, 17, SAYS_VALUE), 1);
        Due.is("another OBJECT", x.define(0, 16, 17, SAYS_VALUE), 1);
    }

    private static void defineRefused() {
        Due.says("REFUSED if there is no such OBJECT, KEY, VALUE");
        int[] objects = {-1, 5, 31, 32, Integer.MAX_VALUE, Integer.MIN_VALUE};
        for (int object : objects) {
            refused("OBJECT " + object, data(7), y -> y.define(object, KEY, 8, ON), Due.REFUSED);
        }
        int[] keys = {-1, 32, 33, Integer.MAX_VALUE, Integer.MIN_VALUE};
        for (int key : keys) {
            refused("KEY " + key, data(7), y -> y.define(0, key, 8, ON), Due.REFUSED);
        }
        refused("VALUE", data(7), y -> y.define(0, KEY, Due.object(5), ON), Due.REFUSED);
        refused("VALUE 2^31", data(7), y -> y.define(0, KEY, 1L << 31, SAYS_VALUE), Due.REFUSED);
        ObjectCore x = bare();
        Due.is("the last OBJECT and KEY", x.define(4, 31, Due.object(4), ON), 1);
        Due.is("its VALUE", x.own(4, 31, 2), Due.object(4));
    }

    private static void defineFlags() {
        Due.says("or flags are not 0..127");
        int[] none = {-1, 128, 255, 1 << 30, Integer.MAX_VALUE, Integer.MIN_VALUE};
        for (int flags : none) {
            refused("flags " + flags, data(7), y -> y.define(0, KEY, 8, flags), Due.REFUSED);
        }
        done("flags 0", data(7), y -> y.define(0, KEY, 8, 0), 1, 7, 7, U, 0);
        done("flags 127", bare(), y -> y.define(0, KEY, 8, 127), 1, 7, 8, U, 0);
    }

    private static void defineValueOnlyIfSaid() {
        Due.says("if it is said: an OBJECT that is not there");
        long[] none = {Due.object(5), Due.object(-1), 1L << 31, Long.MIN_VALUE, Long.MAX_VALUE, Due.RANGE + 1};
        for (long value : none) {
            done("not said", data(7), y -> y.define(0, KEY, value, ON - SAYS_VALUE), 1, 7, 7, U, 0);
            done("not said, none there", bare(), y -> y.define(0, KEY, value, ON - SAYS_VALUE), 1, 7, U, U, 0);
            refused("said", data(7), y -> y.define(0, KEY, value, SAYS_VALUE), Due.REFUSED);
        }
        // LENGTH of an ARRAY is no other in this.
        ObjectCore x = new ObjectCore();
        x.make(1, 2);
        Due.is("not said, LENGTH", x.define(3, 16, 17, SAYS_W | SAYS_E | SAYS_C), 1);
        Due.is("LENGTH", x.own(3, 16, 2), 2);
    }

    private static void accessorRefused() {
        Due.says("REFUSED also if one that is said is no FUNCTION");
        int[] objects = {-1, 5, 31, 32, Integer.MAX_VALUE, Integer.MIN_VALUE};
        for (int object : objects) {
            refused("OBJECT " + object, data(7), y -> y.accessor(object, KEY, F, G, 63), Due.REFUSED);
        }
        int[] keys = {-1, 32, 33, Integer.MAX_VALUE, Integer.MIN_VALUE};
        for (int key : keys) {
            refused("KEY " + key, data(7), y -> y.accessor(0, key, F, G, 63), Due.REFUSED);
        }
        int[] none = {0, 1, 2, 5, 6, 31, 32, -2, Integer.MAX_VALUE, Integer.MIN_VALUE};
        for (int wrong : none) {
            ObjectCore x = data(7);
            x.make(1, 0);
            refused("GETTER " + wrong, x, y -> y.accessor(0, KEY, wrong, G, GETTER | SETTER), Due.REFUSED);
            refused("SETTER " + wrong, x, y -> y.accessor(0, KEY, F, wrong, GETTER | SETTER), Due.REFUSED);
            refused("GETTER alone " + wrong, x, y -> y.accessor(0, KEY, wrong, G, GETTER), Due.REFUSED);
            refused("SETTER alone " + wrong, x, y -> y.accessor(0, KEY, F, wrong, SETTER), Due.REFUSED);
        }
        Due.says("these are OBJECTS, or -1 for UNDEFINED");
        done("both UNDEFINED", data(7), y -> y.accessor(0, KEY, -1, -1, GETTER | SETTER), 2, E | C, U, U, 0);
        ObjectCore x = new ObjectCore();
        for (int object = 3; object < 32; object++) {
            x.make(2, 0);
        }
        done("the last OBJECT", x, y -> y.accessor(0, KEY, 31, 31, 9), 2, 0, Due.object(31), Due.object(31), 0);
        Due.is("none behind it", x.accessor(0, KEY, 32, 31, 9), Due.REFUSED);
    }

    private static void accessorFlags() {
        Due.says("or flags are not 0..63");
        int[] none = {-1, 64, 127, 128, 1 << 30, Integer.MAX_VALUE, Integer.MIN_VALUE};
        for (int flags : none) {
            refused("flags " + flags, data(7), y -> y.accessor(0, KEY, F, G, flags), Due.REFUSED);
        }
        done("flags 0", data(7), y -> y.accessor(0, KEY, F, G, 0), 1, 7, 7, U, 0);
        done("flags 63", data(7), y -> y.accessor(0, KEY, F, G, 63), 2, E | C, Due.object(F), Due.object(G), 0);
    }

    private static void accessorFunctionsOnlyIfSaid() {
        Due.says("0: whether the GETTER is said, 3: the SETTER");
        int[] none = {0, 2, 5, 32, -2, Integer.MAX_VALUE, Integer.MIN_VALUE};
        for (int wrong : none) {
            done("GETTER not said", bare(), y -> y.accessor(0, KEY, wrong, G, SETTER), 2, 0, U, Due.object(G), 0);
            done("SETTER not said", bare(), y -> y.accessor(0, KEY, F, wrong, GETTER), 2, 0, Due.object(F), U, 0);
            done("neither", data(7), y -> y.accessor(0, KEY, wrong, wrong, SAYS_E | SAYS_C), 1, W, 7, U, 0);
        }
    }

    private static void refusedBeforeAllElse() {
        Due.says("define, accessor: REFUSED is tested before all else, so before FULL");
        ObjectCore x = bare();
        int array = x.make(1, 2);
        x.seal(array, 2);
        Due.is("0 or FULL: FULL", x.define(array, 16, 17, SAYS_VALUE), Due.FULL);
        Due.is("flags before FULL", x.define(array, 16, 17, 128 + SAYS_VALUE), Due.REFUSED);
        Due.is("VALUE before FULL", x.define(array, 16, Due.object(6), SAYS_VALUE), Due.REFUSED);
        Due.is("VALUE before 0", x.define(array, 3, Due.object(6), SAYS_VALUE), Due.REFUSED);
        Due.is("flags before 0", x.define(array, 3, 1, -1), Due.REFUSED);
        Due.is("GETTER before 0", x.accessor(array, 3, 0, F, 9), Due.REFUSED);
        Due.is("SETTER before 0", x.accessor(array, 3, F, 0, 9), Due.REFUSED);
        Due.is("accessor's flags before 0", x.accessor(array, 3, F, F, 64), Due.REFUSED);
        Due.is("0 else", x.accessor(array, 3, F, F, 9), 0);
        Due.is("accessor of LENGTH", x.accessor(array, 16, F, F, 9), 0);
        Due.is("accessor of LENGTH, no FUNCTION", x.accessor(array, 16, 0, F, 9), Due.REFUSED);
    }
}
