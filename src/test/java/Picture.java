/**
 * What can be seen of an object, in one line, so that a test can tell that nothing changed. Few calls are made
 * for it, since an object is promised for 512 calls only.
 */
final class Picture {
    private Picture() {
    }

    /** own 0 to 4, told as 0 alone where there is no PROPERTY. */
    static String property(ObjectCore x, int object, int key) {
        long kind = x.own(object, key, 0);
        if (kind == 0) {
            return "0";
        }
        StringBuilder told = new StringBuilder().append(kind);
        for (int what = 1; what <= 4; what++) {
            told.append(' ').append(x.own(object, key, what));
        }
        return told.toString();
    }

    static String object(ObjectCore x, int object) {
        StringBuilder told = new StringBuilder("OBJECT " + object);
        for (int what = 0; what <= 3; what++) {
            told.append(' ').append(x.of(object, what));
        }
        for (int key = 0; key < 32; key++) {
            String property = property(x, object, key);
            if (!property.equals("0")) {
                told.append(", KEY ").append(key).append(": ").append(property);
            }
        }
        return told.toString();
    }

    /** For four OBJECTS or so: more take too many calls. */
    static String all(ObjectCore x) {
        StringBuilder told = new StringBuilder("result " + x.result() + ", state");
        for (int what = 0; what <= 3; what++) {
            told.append(' ').append(x.state(what));
        }
        for (int object = 0; object < x.state(0); object++) {
            told.append("; ").append(object(x, object));
        }
        return told.toString();
    }

    /** What own 0 to 4 have to be told as. */
    static String of(long... answers) {
        StringBuilder told = new StringBuilder();
        for (long answer : answers) {
            told.append(told.length() == 0 ? "" : " ").append(answer);
        }
        return told.toString();
    }
}
