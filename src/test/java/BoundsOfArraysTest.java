/** Terms on ARRAYS, and promises 4, 5, 10 and 18 for them: LENGTH 0..16, and what it does to elements. */
public final class BoundsOfArraysTest {
    private static final int W = 1, E = 2, C = 4, SAYS_W = 8, SAYS_E = 16, SAYS_C = 32, SAYS_VALUE = 64, ON = 127;
    private static final int R = Due.RETURNED;
    private static final int T = Due.THROWN;
    private static final int LENGTH = 16;
    private static final int A = 3;
    private static final long U = Due.UNDEFINED;

    /** Those that are no NUMBERS 0..16; the lower half of many of them is one. */
    private static final long[] NO_LENGTHS = {-1, 17, 18, 31, Integer.MAX_VALUE, Integer.MIN_VALUE, Due.UNDEFINED,
        Due.NULL, Due.FALSE, Due.TRUE, Due.TYPE, Due.RANGE, Due.object(0), Due.object(2), Due.object(A)};

    public static void main(String[] args) {
        lengthFromTheBeginning();
        makeTakes0To16();
        noNumber0To16();
        rangeByInstructions();
        rangeBeforeRefused();
        putToLengthNotWritable();
        eachLength();
        lessAndNotWritable();
        lessAndNotToBeDefinedSo();
        elementsGo();
        elementsGoUntilOneStays();
        asSaidToo();
        greatestThatStays();
        indexNotBelowLength();
        indexAndLengthNotWritable();
        indexThatIsNotMade();
        indexBelowLength();
        putOfElements();
        lengthCannotGo();
        onlyOfArrays();
        Due.end("BoundsOfArraysTest");
    }

    private static ObjectCore withArray(int length) {
        ObjectCore x = new ObjectCore();
        x.make(1, length);
        return x;
    }

    /** An ARRAY with so many elements, each with its INDEX as its VALUE. */
    private static ObjectCore withElements(int count) {
        ObjectCore x = withArray(count);
        for (int index = 0; index < count; index++) {
            x.define(A, index, index, ON);
        }
        return x;
    }

    private static void isLength(String what, ObjectCore x, int value, int attributes) {
        Due.is(what + ", LENGTH", x.own(A, LENGTH, 2), value);
        Due.is(what + ", LENGTH is", x.own(A, LENGTH, 1), attributes);
    }

    private static void hasElementsBelow(String what, ObjectCore x, int count) {
        for (int index = 0; index < 16; index++) {
            Due.is(what + ", element " + index, x.own(A, index, 0), index < count ? 1 : 0);
        }
    }

    private static void lengthFromTheBeginning() {
        Due.says("An ARRAY has LENGTH from the beginning: DATA, a NUMBER, WRITABLE alone");
        for (int length = 0; length <= 16; length += 8) {
            ObjectCore x = withArray(length);
            Due.same("made", Picture.property(x, A, LENGTH), Picture.of(1, W, length, U, 0));
            Due.is("it alone", x.of(A, 3), 1);
            Due.is("not ENUMERABLE", x.each(A, 0), Due.REFUSED);
        }
        for (int count = 0; count <= 4; count++) {
            ObjectCore x = new ObjectCore();
            int function = Asm.function(x, 0, false, Asm.onto(4, "ARRAY " + count, "GIVE"));
            Due.ends("ARRAY " + count, x, x.call(function, 0, 0), R, Due.object(4));
            Due.same("ARRAY " + count, Picture.property(x, 4, LENGTH), Picture.of(1, W, count, U, 0));
            Due.is("PROPERTIES", x.of(4, 3), count + 1);
            for (int index = 0; index < count; index++) {
                Due.same("element", Picture.property(x, 4, index), Picture.of(1, 7, 4 - count + index, U, index + 1));
            }
        }
    }

    private static void makeTakes0To16() {
        Due.says("0..16 for an ARRAY");
        ObjectCore x = new ObjectCore();
        for (int length = 0; length <= 16; length++) {
            Due.is("make " + length, x.make(1, length), 3 + length);
            Due.is("LENGTH " + length, x.own(3 + length, LENGTH, 2), length);
        }
        int[] none = {-1, 17, Integer.MAX_VALUE, Integer.MIN_VALUE};
        for (int length : none) {
            Due.is("make " + length, x.make(1, length), Due.REFUSED);
        }
        Due.is("none made", x.state(0), 20);
    }

    private static void noNumber0To16() {
        Due.says("LENGTH with a VALUE: if that is no NUMBER 0..16 RANGE is thrown");
        for (long value : NO_LENGTHS) {
            ObjectCore x = withElements(3);
            String before = Picture.object(x, A);
            Due.is("define " + value, x.define(A, LENGTH, value, SAYS_VALUE), Due.FULL);
            Due.ends("put " + value, x, x.put(A, LENGTH, value, false), T, Due.RANGE);
            Due.ends("put " + value + ", STRICT", x, x.put(A, LENGTH, value, true), T, Due.RANGE);
            Due.same("nothing changes", Picture.object(x, A), before);
        }
        ObjectCore x = withElements(3);
        Due.is("0", x.define(A, LENGTH, 0, SAYS_VALUE), 1);
        Due.is("16", x.define(A, LENGTH, 16, SAYS_VALUE), 1);
        Due.ends("put 0", x, x.put(A, LENGTH, 0, true), R, 0);
        Due.ends("put 16", x, x.put(A, LENGTH, 16, true), R, 16);
        isLength("put 16", x, 16, W);
    }

    private static void rangeByInstructions() {
        Due.says("for LENGTH of an ARRAY a VALUE that is no NUMBER 0..16 throws RANGE (define: FULL)");
        String[] values = {"NUMBER -1", "NUMBER 17", "NUMBER -2147483648", "SPECIAL 0", "SPECIAL 5", "OBJECT"};
        for (String value : values) {
            Asm.due(T, Due.RANGE, "ARRAY 0", value, "PUT 16", "GIVE");
            Asm.dueStrict(T, Due.RANGE, "ARRAY 0", value, "PUT 16", "GIVE");
            Asm.due(T, Due.RANGE, "ARRAY 0", "NUMBER 16", value, "PUTAT", "GIVE");
            Asm.due(R, Due.RANGE, "ARRAY 0", value, "TRY 5", "PUT 16", "DROP", "GIVE");
        }
        Asm.due(R, 16, "ARRAY 0", "NUMBER 16", "PUT 16", "GIVE");
        Asm.due(R, 0, "ARRAY 0", "NUMBER 0", "PUT 16", "GIVE");
    }

    private static void rangeBeforeRefused() {
        Due.says("before it is looked at whether DEFINING would be REFUSED");
        int[] flags = {SAYS_VALUE, SAYS_VALUE | SAYS_W | W, SAYS_VALUE | SAYS_E | E, SAYS_VALUE | SAYS_C | C, ON};
        for (long value : NO_LENGTHS) {
            for (int how = 0; how < 3; how++) {
                ObjectCore x = withElements(3);
                x.seal(A, how);
                String before = Picture.object(x, A);
                for (int said : flags) {
                    Due.is("define " + value + " with " + said, x.define(A, LENGTH, value, said), Due.FULL);
                }
                Due.same("nothing changes", Picture.object(x, A), before);
            }
        }
        ObjectCore x = withElements(3);
        x.seal(A, 2);
        Due.is("but 4 is REFUSED", x.define(A, LENGTH, 4, SAYS_VALUE), 0);
    }

    private static void putToLengthNotWritable() {
        Due.says("but a PUT to a LENGTH that is not WRITABLE FAILS");
        for (long value : NO_LENGTHS) {
            ObjectCore x = withElements(3);
            x.define(A, LENGTH, 0, SAYS_W);
            Due.ends("put " + value, x, x.put(A, LENGTH, value, false), R, value);
            Due.ends("put " + value + ", STRICT", x, x.put(A, LENGTH, value, true), T, Due.TYPE);
            isLength("as it was", x, 3, 0);
        }
        for (int value = 0; value <= 16; value++) {
            ObjectCore x = withElements(3);
            x.define(A, LENGTH, 0, SAYS_W);
            Due.ends("put " + value, x, x.put(A, LENGTH, value, false), R, value);
            Due.ends("put " + value + ", STRICT", x, x.put(A, LENGTH, value, true), T, Due.TYPE);
            isLength("as it was", x, 3, 0);
            hasElementsBelow("as it was", x, 3);
        }
        Asm.due(R, 17, "ARRAY 0", "SEAL 2", "NUMBER 17", "PUT 16", "GIVE");
        Asm.dueStrict(T, Due.TYPE, "ARRAY 0", "SEAL 2", "NUMBER 17", "PUT 16", "GIVE");
    }

    private static void eachLength() {
        Due.says("LENGTH with a VALUE");
        for (int from = 0; from <= 16; from += 4) {
            for (int to = 0; to <= 16; to++) {
                ObjectCore x = withElements(from);
                Due.is(from + " to " + to, x.define(A, LENGTH, to, SAYS_VALUE), 1);
                isLength(from + " to " + to, x, to, W);
                hasElementsBelow(from + " to " + to, x, Math.min(from, to));
            }
        }
    }

    private static void lessAndNotWritable() {
        Due.says("If it is less than it is: REFUSED if LENGTH is not WRITABLE");
        for (int value = 0; value < 4; value++) {
            ObjectCore x = withElements(4);
            x.define(A, LENGTH, 0, SAYS_W);
            String before = Picture.object(x, A);
            Due.is("define " + value, x.define(A, LENGTH, value, SAYS_VALUE), 0);
            Due.is("define " + value + ", with WRITABLE", x.define(A, LENGTH, value, SAYS_VALUE | SAYS_W), 0);
            Due.same("none goes", Picture.object(x, A), before);
        }
        ObjectCore x = withElements(4);
        x.define(A, LENGTH, 0, SAYS_W);
        Due.is("the same", x.define(A, LENGTH, 4, SAYS_VALUE), 1);
        Due.is("more", x.define(A, LENGTH, 5, SAYS_VALUE), 0);
        isLength("as it was", x, 4, 0);
    }

    private static void lessAndNotToBeDefinedSo() {
        Due.says("else, if LENGTH may be DEFINED so (else REFUSED, and none goes)");
        int[] flags = {SAYS_C | C, SAYS_E | E, SAYS_W | W | SAYS_C | C, SAYS_W | SAYS_E | E, ON - SAYS_VALUE};
        for (int said : flags) {
            for (int value = 0; value < 4; value++) {
                ObjectCore x = withElements(4);
                String before = Picture.object(x, A);
                Due.is("define " + value + " with " + said, x.define(A, LENGTH, value, SAYS_VALUE | said), 0);
                Due.same("none goes", Picture.object(x, A), before);
            }
        }
        int[] allowed = {0, SAYS_C, SAYS_E, SAYS_W | W, SAYS_C | SAYS_E | SAYS_W | W, W | E | C};
        for (int said : allowed) {
            ObjectCore x = withElements(4);
            Due.is("define 1 with " + said, x.define(A, LENGTH, 1, SAYS_VALUE | said), 1);
            isLength("with " + said, x, 1, W);
            hasElementsBelow("with " + said, x, 1);
        }
    }

    private static void elementsGo() {
        Due.says("elements (INDEXES) go from the greatest INDEX on down to this VALUE");
        for (int value = 0; value <= 16; value++) {
            ObjectCore x = withElements(16);
            x.define(A, 17, 170, ON);
            x.define(A, 31, 310, ON);
            Due.ends("put " + value, x, x.put(A, LENGTH, value, true), R, value);
            isLength("put " + value, x, value, W);
            hasElementsBelow("put " + value, x, value);
            Due.is("PROPERTIES", x.of(A, 3), value + 3);
            Due.same("KEY 17 stays", Picture.property(x, A, 17), Picture.of(1, 7, 170, U, value + 1));
            Due.same("KEY 31 stays", Picture.property(x, A, 31), Picture.of(1, 7, 310, U, value + 2));
            Due.is("LENGTH is the first", x.own(A, LENGTH, 4), 0);
        }
        // One that is there alone, with none around it; and an ACCESSOR.
        ObjectCore x = withArray(16);
        x.define(A, 9, 1, ON);
        x.accessor(A, 12, -1, -1, 63);
        Due.is("to 10", x.define(A, LENGTH, 10, SAYS_VALUE), 1);
        Due.is("9 stays", x.own(A, 9, 0), 1);
        Due.is("12 is gone", x.own(A, 12, 0), 0);
        Due.is("to 9", x.define(A, LENGTH, 9, SAYS_VALUE), 1);
        Due.is("9 is gone", x.own(A, 9, 0), 0);
        // Not WRITABLE does not keep an element.
        x.define(A, 5, 1, ON - W);
        Due.is("to 5", x.define(A, LENGTH, 5, SAYS_VALUE), 1);
        Due.is("5 is gone", x.own(A, 5, 0), 0);
    }

    private static void elementsGoUntilOneStays() {
        Due.says("until one is there that is not CONFIGURABLE: then LENGTH is one more than that INDEX");
        for (int stays = 0; stays < 16; stays++) {
            int[] values = {0, stays, stays + 1};
            for (int value : values) {
                ObjectCore x = withElements(16);
                x.define(A, stays, 0, SAYS_C);
                String what = stays + " stays, to " + value;
                Due.is(what, x.define(A, LENGTH, value, SAYS_VALUE), value > stays ? 1 : 0);
                isLength(what, x, stays + 1, W);
                hasElementsBelow(what, x, stays + 1);
                Due.is(what + ", PROPERTIES", x.of(A, 3), stays + 2);
            }
        }
        Due.says("and it is REFUSED all the same");
        ObjectCore x = withElements(5);
        x.accessor(A, 2, -1, -1, 9 + SAYS_C);
        Due.ends("put, STRICT", x, x.put(A, LENGTH, 0, true), T, Due.TYPE);
        isLength("an ACCESSOR stays", x, 3, W);
        Due.ends("put", x, x.put(A, LENGTH, 2, false), R, 2);
        isLength("put", x, 3, W);
        Due.is("define", x.define(A, LENGTH, 2, SAYS_VALUE), 0);
        Due.is("define of what it is", x.define(A, LENGTH, 3, SAYS_VALUE), 1);
    }

    private static void asSaidToo() {
        Due.says("WRITABLE, ENUMERABLE and CONFIGURABLE become as said, too");
        int[] flags = {0, SAYS_W, SAYS_W | W, SAYS_E, SAYS_C, SAYS_W | SAYS_E | SAYS_C, W | E | C};
        for (int said : flags) {
            ObjectCore x = withElements(5);
            x.define(A, 2, 0, SAYS_C);
            boolean off = (said & SAYS_W) != 0 && (said & W) == 0;
            Due.is("with " + said, x.define(A, LENGTH, 1, SAYS_VALUE | said), 0);
            isLength("with " + said, x, 3, off ? 0 : W);
            Due.ends("put then, with " + said, x, x.put(A, 3, 5, true), off ? T : R, off ? Due.TYPE : 5);
        }
        ObjectCore x = withElements(5);
        Due.is("done, WRITABLE off", x.define(A, LENGTH, 1, SAYS_VALUE | SAYS_W), 1);
        isLength("done, WRITABLE off", x, 1, 0);
        Due.is("more, WRITABLE off", withElements(5).define(A, LENGTH, 9, SAYS_VALUE | SAYS_W), 1);
    }

    private static void greatestThatStays() {
        Due.says("from the greatest INDEX on down");
        ObjectCore x = withElements(16);
        x.define(A, 0, 0, SAYS_C);
        x.define(A, 7, 0, SAYS_C);
        x.define(A, 15, 0, SAYS_C);
        Due.is("15 stays", x.define(A, LENGTH, 0, SAYS_VALUE), 0);
        hasElementsBelow("15 stays", x, 16);
        ObjectCore y = withElements(15);
        y.define(A, 0, 0, SAYS_C);
        y.define(A, 7, 0, SAYS_C);
        Due.is("7 stays", y.define(A, LENGTH, 0, SAYS_VALUE), 0);
        isLength("7 stays", y, 8, W);
        hasElementsBelow("7 stays", y, 8);
    }

    private static void indexNotBelowLength() {
        Due.says("else, if it was made, LENGTH is one more than it");
        for (int length = 0; length <= 16; length += 4) {
            for (int index = 0; index < 16; index++) {
                int due = Math.max(length, index + 1);
                ObjectCore x = withArray(length);
                Due.is("define", x.define(A, index, 5, 0), 1);
                isLength(index + " of " + length, x, due, W);
                ObjectCore y = withArray(length);
                Due.is("accessor", y.accessor(A, index, -1, -1, 1), 1);
                isLength("accessor " + index + " of " + length, y, due, W);
                ObjectCore z = withArray(length);
                Due.ends("put", z, z.put(A, index, 5, true), R, 5);
                isLength("put " + index + " of " + length, z, due, W);
            }
        }
        Asm.due(R, 16, "ARRAY 0", "DUP", "NUMBER 7", "PUT 15", "DROP", "GET 16", "GIVE");
        Asm.due(R, 5, "ARRAY 0", "DUP", "NUMBER 4", "NUMBER 7", "PUTAT", "DROP", "GET 16", "GIVE");
    }

    private static void indexAndLengthNotWritable() {
        Due.says("An INDEX not below LENGTH: REFUSED if LENGTH is not WRITABLE");
        for (int length = 0; length <= 16; length += 4) {
            for (int index = 0; index < 16; index++) {
                ObjectCore x = withArray(length);
                x.define(A, LENGTH, 0, SAYS_W);
                boolean below = index < length;
                Due.is("define " + index + " of " + length, x.define(A, index, 5, ON), below ? 1 : 0);
                x.remove(A, index);
                Due.is("accessor " + index + " of " + length, x.accessor(A, index, -1, -1, 63), below ? 1 : 0);
                x.remove(A, index);
                Due.ends("put " + index + " of " + length, x, x.put(A, index, 5, false), R, 5);
                Due.is("put, none there", x.own(A, index, 0), below ? 1 : 0);
                x.remove(A, index);
                Due.ends("put, STRICT", x, x.put(A, index, 5, true), below ? R : T, below ? 5 : Due.TYPE);
                isLength("as it was", x, length, 0);
            }
        }
        ObjectCore x = withArray(2);
        x.define(A, LENGTH, 0, SAYS_W);
        Due.is("KEY 17 is no INDEX", x.define(A, 17, 5, ON), 1);
        Due.is("KEY 31 is no INDEX", x.define(A, 31, 5, ON), 1);
    }

    private static void indexThatIsNotMade() {
        Due.says("if it was made");
        ObjectCore x = withArray(2);
        x.seal(A, 0);
        Due.is("define", x.define(A, 2, 5, ON), 0);
        Due.is("accessor", x.accessor(A, 15, -1, -1, 63), 0);
        Due.ends("put", x, x.put(A, 5, 5, false), R, 5);
        isLength("not EXTENSIBLE", x, 2, W);
        Due.is("PROPERTIES", x.of(A, 3), 1);
        ObjectCore y = withArray(2);
        y.define(2, 9, 1, SAYS_VALUE);
        Due.ends("put, not WRITABLE in a PROTOTYPE", y, y.put(A, 9, 5, false), R, 5);
        isLength("not WRITABLE in a PROTOTYPE", y, 2, W);
    }

    private static void indexBelowLength() {
        Due.says("An INDEX not below LENGTH");
        ObjectCore x = withElements(4);
        Due.is("the last again", x.define(A, 3, 9, SAYS_VALUE), 1);
        Due.is("the last goes", x.remove(A, 3), 1);
        isLength("the last goes", x, 4, W);
        Due.is("the last comes again", x.define(A, 3, 9, ON), 1);
        isLength("the last comes again", x, 4, W);
        x.remove(A, 0);
        isLength("the first goes", x, 4, W);
        x.define(A, 2, 9, SAYS_C);
        Due.is("one that is REFUSED", x.define(A, 2, 9, SAYS_C | C), 0);
        isLength("one that is REFUSED", x, 4, W);
    }

    private static void putOfElements() {
        Due.says("Where DEFINING is REFUSED it FAILS");
        ObjectCore x = withArray(1);
        x.define(A, LENGTH, 0, SAYS_W);
        Due.ends("an INDEX", x, x.put(A, 1, 5, false), R, 5);
        Due.ends("an INDEX, STRICT", x, x.put(A, 1, 5, true), T, Due.TYPE);
        Due.is("none", x.own(A, 1, 0), 0);
        String[] lines = {"ARRAY 0", "SEAL 2", "NUMBER 5", "PUT 0", "GIVE"};
        Asm.due(R, 5, lines);
        Asm.dueStrict(T, Due.TYPE, lines);
        String[] stays = {"NUMBER 5", "ARRAY 1", "SEAL 1", "DUP", "NUMBER 0", "PUT 16", "DROP", "GET 16", "GIVE"};
        Asm.due(R, 1, stays);
        Asm.dueStrict(T, Due.TYPE, stays);
    }

    private static void lengthCannotGo() {
        Due.says("Not CONFIGURABLE: FAILS, with FALSE");
        ObjectCore x = withArray(3);
        Due.is("remove", x.remove(A, LENGTH), 0);
        Due.is("an ACCESSOR", x.accessor(A, LENGTH, -1, -1, 1), 0);
        Due.is("an ACCESSOR by SETTER", x.accessor(A, LENGTH, -1, -1, 8), 0);
        Due.is("CONFIGURABLE", x.define(A, LENGTH, 3, SAYS_C | C), 0);
        Due.is("ENUMERABLE", x.define(A, LENGTH, 3, SAYS_E | E), 0);
        isLength("as it was", x, 3, W);
        Asm.due(R, Due.FALSE, "ARRAY 0", "DELETE 16", "GIVE");
        Asm.dueStrict(T, Due.TYPE, "ARRAY 0", "DELETE 16", "GIVE");
    }

    private static void onlyOfArrays() {
        Due.says("For an ARRAY");
        for (int kind = 0; kind <= 2; kind += 2) {
            for (long value : NO_LENGTHS) {
                ObjectCore x = new ObjectCore();
                x.make(kind, 0);
                Due.is("define", x.define(A, LENGTH, value, SAYS_VALUE | SAYS_W | W), 1);
                Due.is("an INDEX", x.define(A, 15, 5, ON), 1);
                Due.ends("put", x, x.put(A, LENGTH, value, true), R, value);
                Due.same("as any other", Picture.property(x, A, LENGTH), Picture.of(1, W, value, U, 0));
            }
        }
        // One that has an ARRAY as its PROTOTYPE has a LENGTH like any other, too.
        ObjectCore x = withElements(3);
        int plain = x.make(0, A);
        Due.ends("put", x, x.put(plain, LENGTH, 17, true), R, 17);
        Due.same("its own", Picture.property(x, plain, LENGTH), Picture.of(1, 7, 17, U, 0));
        Due.is("remove", x.remove(plain, LENGTH), 1);
        isLength("the ARRAY's", x, 3, W);
        x.define(A, LENGTH, 0, SAYS_W);
        Due.ends("put, not WRITABLE there", x, x.put(plain, LENGTH, 1, true), T, Due.TYPE);
        Due.ends("put of an INDEX", x, x.put(plain, 9, 1, true), R, 1);
        // OBJECT 2, the PROTOTYPE of ARRAYS, is PLAIN.
        Due.is("LENGTH of OBJECT 2", x.define(2, LENGTH, 99, SAYS_VALUE), 1);
        Due.is("an INDEX of OBJECT 2", x.define(2, 5, 99, SAYS_VALUE), 1);
        Due.is("LENGTH of OBJECT 2 then", x.own(2, LENGTH, 2), 99);
    }
}
