import java.util.Arrays;

/** A FrameStreams with what tests need again and again: fields by their letters, raw bytes on a wire. */
final class Rig {
    static final int DATA = 0;
    static final int HEADERS = 1;
    static final int RESET = 3;
    static final int SETTINGS = 4;
    static final int PING = 6;
    static final int AWAY = 7;
    static final int WINDOW = 8;

    static final int IDLE = 0;
    static final int OPEN = 1;
    static final int SENT = 2;
    static final int HEARD = 3;
    static final int CLOSED = 4;

    static final int PROTOCOL = 1;
    static final int FLOW = 3;
    static final int SIZE = 6;
    static final int COMPRESSION = 9;


    final FrameStreams x = new FrameStreams();

    /** A text is made to be these letters. */
    void text(int text, String letters) {
        x.wipe(text);
        for (int i = 0; i < letters.length(); i++) {
            x.letter(text, letters.charAt(i));
        }
    }

    /** The list gets fields, each told as name=value. */
    Rig list(int end, String... fields) {
        for (String field : fields) {
            int cut = field.indexOf('=');
            text(6, field.substring(0, cut));
            text(7, field.substring(cut + 1));
            x.field(end, 6, 7);
        }
        return this;
    }

    /** The end 0 opens streams, which come at the end 1, all without fields. */
    Rig open(int streams) {
        if (streams > x.end(0, 10)) {
            x.setting(1, 2, streams);
            comeAll(0);
        }
        for (int i = 0; i < streams; i++) {
            x.headers(0, 0, false);
        }
        settle();
        return this;
    }

    /** All that is on the way to the end comes: how many frames were whole. */
    int comeAll(int end) {
        int whole = 0;
        for (int i = 0; i < 240 && x.end(end, 1) > 0; i++) {
            whole += x.come(end, 60);
        }
        return whole;
    }

    /** All that is on the way comes, and the answers too. */
    void settle() {
        for (int i = 0; i < 8 && x.end(0, 1) + x.end(1, 1) > 0; i++) {
            comeAll(1);
            comeAll(0);
        }
    }

    /** The bytes on the way to the end. */
    int[] wire(int end) {
        int[] bytes = new int[x.end(end, 1)];
        for (int i = 0; i < bytes.length; i++) {
            bytes[i] = x.alter(end, i, 0);
        }
        return bytes;
    }

    String wireText(int end) {
        return Arrays.toString(wire(end));
    }

    static String bytes(int... bytes) {
        return Arrays.toString(bytes);
    }

    static int[] frame(int type, int flags, int stream, int... rest) {
        int[] frame = new int[4 + rest.length];
        frame[0] = rest.length;
        frame[1] = type;
        frame[2] = flags;
        frame[3] = stream;
        System.arraycopy(rest, 0, frame, 4, rest.length);
        return frame;
    }

    /**
     * Puts these bytes on the way to the end, which must have none: pings are sent there and altered.
     * What is left of them becomes frames of a type that is none.
     */
    Rig put(int end, int... bytes) {
        int pings = (bytes.length + 4) / 5;
        int left = 5 * pings - bytes.length;
        if (left >= 1 && left <= 3) {
            pings++;
            left += 5;
        }
        int[] all = Arrays.copyOf(bytes, 5 * pings);
        if (left > 0) {
            all[bytes.length] = left - 4;
            all[bytes.length + 1] = 99;
        }
        for (int i = 0; i < pings; i++) {
            x.ping(1 - end, 0);
        }
        for (int i = 0; i < all.length; i++) {
            x.alter(end, i, x.alter(end, i, 0) ^ all[i]);
        }
        return this;
    }

    /** Such a frame comes at the end, whole. */
    void hear(int end, int type, int flags, int stream, int... rest) {
        int[] frame = frame(type, flags, stream, rest);
        put(end, frame);
        x.come(end, frame.length);
        if (x.end(end, 1) > 0) {
            x.come(end, 60);
        }
    }

    /** Such a frame comes at the end: the number of the error that it is, 0 if it is none. */
    int errorOf(int end, int type, int flags, int stream, int... rest) {
        String thrown = Check.thrownBy(() -> {
            hear(end, type, flags, stream, rest);
            return 0;
        });
        boolean shut = x.end(end, 0) != 0;
        Check.is("a frame throws if it is an error", shut ? "UnsupportedOperationException" : "0", thrown);
        return x.end(end, 0);
    }

    /** The number of the error that a block is at the end 1, on a new stream 1. */
    int errorOfBlock(int... block) {
        return errorOf(1, HEADERS, 0, 1, block);
    }

    /** The error that bytes are which stand alone at the front of a wire. */
    int errorOfBytes(int end, int... bytes) {
        put(end, bytes);
        Check.thrownBy(() -> x.come(end, bytes.length));
        return x.end(end, 0);
    }

    /** The fields heard on a stream, each as name=value, with a space between. */
    String fields(int end, int stream) {
        StringBuilder all = new StringBuilder();
        for (int i = 0; i < x.stream(end, stream, 5); i++) {
            all.append(i == 0 ? "" : " ");
            all.append(part(end, stream, i, false)).append('=').append(part(end, stream, i, true));
        }
        return all.toString();
    }

    private String part(int end, int stream, int i, boolean value) {
        StringBuilder letters = new StringBuilder();
        for (int k = 0; k < 7; k++) {
            int at = k;
            String letter = Check.thrownBy(() -> x.heard(end, stream, i, value, at));
            if (letter.equals("NoSuchElementException")) {
                break;
            }
            letters.append((char) Integer.parseInt(letter));
        }
        return letters.toString();
    }

    /** All that can be asked of an object, but for the texts and what the lists hold. */
    String all() {
        StringBuilder all = new StringBuilder();
        for (int end = 0; end < 2; end++) {
            for (int what = 0; what <= 10; what++) {
                all.append(x.end(end, what)).append(' ');
            }
            all.append(wireText(end)).append('\n');
            all.append(x.stream(end, 0, 1)).append(' ').append(x.stream(end, 0, 2)).append('\n');
            for (int stream = 1; stream <= 13; stream += 2) {
                for (int what = 0; what <= 5; what++) {
                    all.append(x.stream(end, stream, what)).append(' ');
                }
                all.append(fields(end, stream)).append('\n');
            }
        }
        return all.toString();
    }

    /** Fills the wire to the end with that many pings, each of five bytes. */
    Rig pings(int toEnd, int count) {
        for (int i = 0; i < count; i++) {
            x.ping(1 - toEnd, i);
        }
        return this;
    }
}
