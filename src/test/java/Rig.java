import java.util.Arrays;

/** A FrameStreams with what tests need again and again: fields by their letters, raw bytes on a wire. */
final class Rig {
    static final int DATA = 0;
    static final int HEADERS = 1;
    static final int RESET = 3;
    static final int SETTINGS = 4;
    static final int PING = 6;
    static final int AWAY = 7;
    static final int WINDOW = 8;

    static final int IDLE = 0;
    static final int OPEN = 1;
    static final int SENT = 2;
    static final int HEARD = 3;
    static final int CLOSED = 4;

    static final int PROTOCOL = 1;
    static final int FLOW = 3;
    static final int SIZE = 6;
    static final int COMPRESSION = 9;

    final Calls x;

    Rig() {
        this(new Calls());
    }

    Rig(Calls x) {
        this.x = x;
    }

    /** A text is made to be these letters. */
    void text(int text, String letters) {
        x.wipe(text);
        for (int i = 0; i < letters.length(); i++) {
            x.letter(text, letters.charAt(i));
        }
    }

    /** The list gets fields, each told as name=value. */
    Rig list(int end, String... fields) {
        for (String field : fields) {
            int cut = field.indexOf('=');
            text(6, field.substring(0, cut));
            text(7, field.substring(cut + 1));
            x.field(end, 6, 7);
        }
        return this;
    }

    /** The end 0 opens streams, which come at the end 1, all without fields. */
    Rig open(int streams) {
        if (streams > x.end(0, 10)) {
            x.setting(1, 2, streams);
            comeAll(0);
        }
        for (int i = 0; i < streams; i++) {
            x.headers(0, 0, false);
        }
        settle();
        return this;
    }

    /** All that is on the way to the end comes: how many frames were whole. */
    int comeAll(int end) {
        int whole = 0;
        for (int i = 0; i < 240 && x.end(end, 1) > 0; i++) {
            whole += x.come(end, 60);
        }
        return whole;
    }

    /** All that is on the way comes, and the answers too. */
    void settle() {
        for (int i = 0; i < 8 && x.end(0, 1) + x.end(1, 1) > 0; i++) {
            comeAll(1);
            comeAll(0);
        }
    }

    /** The bytes on the way to the end. */
    int[] wire(int end) {
        Calls copy = x.copy();
        int[] bytes = new int[copy.end(end, 1)];
        for (int i = 0; i < bytes.length; i++) {
            bytes[i] = copy.alter(end, i, 0);
        }
        return bytes;
    }

    String wireText(int end) {
        return Arrays.toString(wire(end));
    }

    static String bytes(int... bytes) {
        return Arrays.toString(bytes);
    }

    static int[] frame(int type, int flags, int stream, int... rest) {
        int[] frame = new int[4 + rest.length];
        frame[0] = rest.length;
        frame[1] = type;
        frame[2] = flags;
        frame[3] = stream;
        System.arraycopy(rest, 0, frame, 4, rest.length);
        return frame;
    }

    /**
     * Puts these bytes on the way to the end, which must have none: pings are sent there and altered.
     * What is left of them becomes frames of a type that is none.
     */
    Rig put(int end, int... bytes) {
        if (x.end(end, 1) > 0) {
            throw new AssertionError("there are bytes on the way already");
        }
        int pings = (bytes.length + 4) / 5;
        int left = 5 * pings - bytes.length;
        if (left >= 1 && left <= 3) {
            pings++;
            left += 5;
        }
        int[] all = Arrays.copyOf(bytes, 5 * pings);
        if (left > 0) {
            all[bytes.length] = left - 4;
            all[bytes.length + 1] = 99;
        }
        for (int i = 0; i < pings; i++) {
            x.ping(1 - end, 0);
        }
        for (int i = 0; i < all.length; i++) {
            x.alter(end, i, x.alter(end, i, 0) ^ all[i]);
        }
        return this;
    }

    /** Such a frame comes at the end, whole. */
    void hear(int end, int type, int flags, int stream, int... rest) {
        int[] frame = frame(type, flags, stream, rest);
        put(end, frame);
        x.come(end, frame.length);
        if (x.end(end, 1) > 0) {
            x.come(end, 60);
        }
    }

    /** Such a frame comes at the end: the number of the error that it is, 0 if it is none. */
    int errorOf(int end, int type, int flags, int stream, int... rest) {
        String thrown = Check.thrownBy(() -> {
            hear(end, type, flags, stream, rest);
            return 0;
        });
        boolean shut = x.end(end, 0) != 0;
        Check.is("a frame throws if it is an error", shut ? "UnsupportedOperationException" : "0", thrown);
        return x.end(end, 0);
    }

    /** The number of the error that a block is at the end 1, on a new stream 1. */
    int errorOfBlock(int... block) {
        return errorOf(1, HEADERS, 0, 1, block);
    }

    /** The error that bytes are which stand alone at the front of a wire. */
    int errorOfBytes(int end, int... bytes) {
        put(end, bytes);
        Check.thrownBy(() -> x.come(end, bytes.length));
        return x.end(end, 0);
    }

    /** The fields heard on a stream, each as name=value, with a space between. */
    String fields(int end, int stream) {
        return fields(x.copy(), end, stream);
    }

    static String fields(Calls x, int end, int stream) {
        StringBuilder all = new StringBuilder();
        int count = x.stream(end, stream, 5);
        for (int i = 0; i < count; i++) {
            all.append(i == 0 ? "" : " ");
            all.append(part(x, end, stream, i, false)).append('=').append(part(x, end, stream, i, true));
        }
        return all.toString();
    }

    private static String part(Calls x, int end, int stream, int i, boolean value) {
        StringBuilder letters = new StringBuilder();
        for (int k = 0; k < 7; k++) {
            int at = k;
            String letter = Check.thrownBy(() -> x.heard(end, stream, i, value, at));
            if (letter.equals("NoSuchElementException")) {
                break;
            }
            letters.append((char) Integer.parseInt(letter));
        }
        return letters.toString();
    }

    /** All that can be found out about the object. */
    String all() {
        return State.of(x);
    }

    /** Fills the wire to the end with that many pings, each of five bytes. */
    Rig pings(int toEnd, int count) {
        for (int i = 0; i < count; i++) {
            x.ping(1 - toEnd, i);
        }
        return this;
    }

    /** Fills the empty wire to the end with exactly so many bytes; the end may have a frame's front then. */
    Rig fill(int toEnd, int bytes) {
        int pings = (bytes + 4) / 5;
        pings(toEnd, pings);
        if (5 * pings > bytes) {
            x.come(toEnd, 5 * pings - bytes);
        }
        Check.is("bytes on the way to " + toEnd, bytes, x.end(toEnd, 1));
        return this;
    }

    /** The stream 1 is in that state at the end, and nothing is on the way. */
    static Rig inState(int end, int state) {
        Rig rig = new Rig();
        if (state != IDLE) {
            rig.open(1);
        }
        if (state == SENT) {
            rig.x.data(end, 1, 0, 0, true);
        } else if (state == HEARD) {
            rig.x.data(1 - end, 1, 0, 0, true);
        } else if (state == CLOSED) {
            rig.x.reset(end, 1, 0);
        }
        rig.settle();
        Check.is("the state of 1 at " + end, state, rig.x.stream(end, 1, 0));
        return rig;
    }

    /** The end is shut by a length too great; AWAY is on the way to the other one. */
    Rig shut(int end) {
        Check.is("the end " + end + " is SHUT", SIZE, errorOfBytes(end, 41));
        return this;
    }

    /** ROOM and DUE of a stream, or of the connection, at an end. */
    String windows(int end, int stream) {
        return x.stream(end, stream, 1) + " " + x.stream(end, stream, 2);
    }

    /** The call is refused for its numbers, and nothing is changed. */
    void argument(String what, Check.Call call) {
        refused(what, "IllegalArgumentException", call);
    }

    /** The call is refused for the state, and nothing is changed. */
    void state(String what, Check.Call call) {
        refused(what, "IllegalStateException", call);
    }

    /** The call is refused as nothing is there, and nothing is changed. */
    void nothing(String what, Check.Call call) {
        refused(what, "NoSuchElementException", call);
    }

    private void refused(String what, String exception, Check.Call call) {
        String before = all();
        Check.is(what, exception, Check.thrownBy(call));
        Check.is(what + ": what is changed", "", State.difference(before, all()));
    }
}
