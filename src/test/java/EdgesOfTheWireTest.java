import java.util.Arrays;

/** The edges that the document names of wires and frames: what is full, too long, of no such kind. */
final class EdgesOfTheWireTest {
    private static final int WIRE = 240;
    private static final int[] ALL_TYPES = {
        Rig.DATA, Rig.HEADERS, Rig.RESET, Rig.SETTINGS, Rig.PING, Rig.AWAY, Rig.WINDOW, 2, 5, 9, 255
    };

    public static void main(String[] args) {
        fullWireOfEachCall();
        fullBlockOnTheWire();
        eachDirectionHasItsWire();
        takenBytesGiveRoom();
        wrapsAround();
        answersNeedRoom();
        awayNeedsRoom();
        whatWasDoneStays();
        wholeByItsLastByte();
        longestFrame();
        tooLong();
        tooLongBeforeAll();
        typesThatAreNone();
        lowestFlag();
        streamsOfFrames();
        lengthsOfFrames();
        Check.end("EdgesOfTheWireTest");
    }

    private static void fullWireOfEachCall() {
        Check.sentence("a WIRE of at most 240 bytes; IllegalStateException: no room on the WIRE");
        for (int end = 0; end < 2; end++) {
            int e = end;
            room(e, 4, x -> x.headers(e, 1, true), 1);
            room(e, 4, x -> x.data(e, 1, 0, 7, true), 16);
            room(e, 5, x -> x.data(e, 1, 1, 7, true), 15);
            room(e, 20, x -> x.data(e, 1, 16, 7, false), 0);
            room(e, 5, x -> x.window(e, 1, 3), 19);
            room(e, 5, x -> x.window(e, 0, 3), 27);
            room(e, 5, x -> x.reset(e, 1, 9), 0);
            room(e, 6, x -> x.setting(e, 0, 6), 3);
            room(e, 6, x -> x.setting(e, 1, 5), 16);
            room(e, 6, x -> x.setting(e, 2, 7), 2);
            room(e, 5, x -> x.ping(e, 200), 0);
        }
        room(0, 4, x -> x.headers(0, 0, false), 3);
        room(0, 4, x -> x.headers(0, 0, true), 3);
    }

    private interface Sending {
        int on(Calls x);
    }

    /** A call that sends so many bytes: with one byte too little it is refused, else it fills the wire. */
    private static void room(int end, int length, Sending call, int answer) {
        String what = length + " bytes of the end " + end;
        Rig full = new Rig().open(1).fill(1 - end, WIRE - length + 1);
        full.state(what + ", one too little", () -> call.on(full.x));
        Rig even = new Rig().open(1).fill(1 - end, WIRE - length);
        Check.is(what, answer, call.on(even.x));
        Check.is(what + " fill it", WIRE, even.x.end(1 - end, 1));
    }

    private static void fullBlockOnTheWire() {
        Check.sentence("no room on the WIRE, a LIST with FIELDS");
        Rig full = new Rig().open(1);
        full.list(0, "a=b", "c=d").fill(1, WIRE - 13);
        full.state("14 bytes, one too little", () -> full.x.headers(0, 1, false));
        full.state("a new stream, one too little", () -> full.x.headers(0, 0, false));
        Rig even = new Rig().open(1);
        even.list(0, "a=b", "c=d").fill(1, WIRE - 14);
        Check.is("14 bytes", 1, even.x.headers(0, 1, false));
        Check.is("fill it", WIRE, even.x.end(1, 1));
        Check.is("they are in the table", 2, even.x.end(0, 2));
        Rig long40 = new Rig();
        long40.list(0, "aaaaaa=bbbbbb", "cccccc=dddddd", "e=ffffff").fill(1, WIRE - 44);
        Check.is("44 bytes", 1, long40.x.headers(0, 0, false));
        Check.is("fill it", WIRE, long40.x.end(1, 1));
    }

    private static void eachDirectionHasItsWire() {
        Check.sentence("for each direction a WIRE");
        Rig rig = new Rig().fill(1, WIRE);
        Check.is("none on the other one", 0, rig.x.end(0, 1));
        rig.state("full to the end 1", () -> rig.x.ping(0, 1));
        rig.fill(0, WIRE);
        rig.state("full to the end 0", () -> rig.x.ping(1, 1));
        Check.is("the first byte to the end 0", 1, rig.x.alter(0, 0, 0));
        Check.is("the last byte to the end 0", 47, rig.x.alter(0, WIRE - 1, 0));
    }

    private static void takenBytesGiveRoom() {
        Check.sentence("bytes that are on their way");
        Rig rig = new Rig().fill(1, WIRE);
        for (int i = 1; i <= 4; i++) {
            rig.x.come(1, 1);
            Check.is("one less", WIRE - i, rig.x.end(1, 1));
            rig.state("room of " + i, () -> rig.x.ping(0, 1));
        }
        rig.x.come(1, 1);
        Check.is("room of 5", 0, rig.x.ping(0, 1));
        Check.is("full again", WIRE, rig.x.end(1, 1));
    }

    private static void wrapsAround() {
        Check.sentence("bytes come one by one, in their order, however many came before");
        for (int piece : new int[] {60, 59, 7}) {
            Rig rig = new Rig();
            int sent = 0;
            int answered = 0;
            for (int round = 0; round < 6; round++) {
                for (int i = 0; i < 11; i++) {
                    rig.x.ping(0, sent % 256);
                    sent++;
                }
                while (rig.x.end(1, 1) > 0) {
                    rig.x.come(1, piece);
                }
                for (int value : pongs(rig)) {
                    Check.is("answer " + answered, answered % 256, value);
                    answered++;
                }
                rig.comeAll(0);
            }
            Check.is("330 bytes have come", 66, answered);
            Check.is("counted", 66, rig.x.end(0, 4));
        }
    }

    /** The bytes of the answers to pings on the way to the end 0. */
    private static int[] pongs(Rig rig) {
        int[] wire = rig.wire(0);
        int[] values = new int[wire.length / 5];
        for (int i = 0; i < values.length; i++) {
            Check.is("an answer", Rig.bytes(1, 6, 1, 0), Arrays.toString(Arrays.copyOfRange(wire, 5 * i, 5 * i + 4)));
            values[i] = wire[5 * i + 4];
        }
        return values;
    }

    private static void answersNeedRoom() {
        Check.sentence("answers and RESETS, sent while hearing, that have no room there: an ERROR, SIZE 6");
        for (int end = 0; end < 2; end++) {
            answer(end, 4, Rig.frame(Rig.SETTINGS, 0, 0, 1, 20), Rig.OPEN);
            answer(end, 5, Rig.frame(Rig.PING, 0, 0, 9), Rig.OPEN);
            answer(end, 5, Rig.frame(Rig.HEADERS, 0, 1), Rig.CLOSED);
            answer(end, 5, Rig.frame(Rig.HEADERS, 0, 1), Rig.HEARD);
            answer(end, 5, Rig.frame(Rig.DATA, 0, 1, 1), Rig.CLOSED);
            answer(end, 5, Rig.frame(Rig.DATA, 0, 1, 1), Rig.HEARD);
            answer(end, 5, Rig.frame(Rig.DATA, 0, 1, new int[17]), Rig.OPEN);
            silent(end, Rig.frame(Rig.SETTINGS, 1, 0));
            silent(end, Rig.frame(Rig.PING, 1, 0, 9));
            silent(end, Rig.frame(Rig.HEADERS, 0, 1));
            silent(end, Rig.frame(Rig.DATA, 0, 1, 9));
            silent(end, Rig.frame(Rig.RESET, 0, 1, 9));
            silent(end, Rig.frame(Rig.AWAY, 0, 0, 1, 1));
            silent(end, Rig.frame(Rig.WINDOW, 0, 1, 1));
        }
    }

    /** A frame in whose answer there are so many bytes. */
    private static void answer(int end, int length, int[] frame, int state) {
        String what = "type " + frame[1] + " at " + end;
        Rig even = Rig.inState(end, state).fill(1 - end, WIRE - length);
        even.put(end, frame);
        Check.is(what + ", room", 1, even.x.come(end, frame.length));
        Check.is(what + " fills it", WIRE, even.x.end(1 - end, 1));
        Check.is(what + ", not SHUT", 0, even.x.end(end, 0));
        Rig full = Rig.inState(end, state).fill(1 - end, WIRE - length + 1);
        full.put(end, frame);
        int behind = full.x.end(end, 1) - frame.length;
        Check.error(what + ", no room", () -> full.x.come(end, frame.length));
        Check.is(what + ", SHUT", Rig.SIZE, full.x.end(end, 0));
        Check.is(what + ", no part of it", WIRE - length + 1, full.x.end(1 - end, 1));
        Check.is(what + ", the bytes behind stay", behind, full.x.end(end, 1));
    }

    /** A frame that is not answered needs no room. */
    private static void silent(int end, int[] frame) {
        Rig rig = Rig.inState(end, Rig.OPEN).fill(1 - end, WIRE);
        rig.put(end, frame);
        Check.is("no answer to type " + frame[1], 1, rig.x.come(end, frame.length));
        Check.is("full still", WIRE, rig.x.end(1 - end, 1));
    }

    private static void awayNeedsRoom() {
        Check.sentence("the end sends AWAY (if there is room)");
        for (int end = 0; end < 2; end++) {
            Rig even = new Rig().fill(1 - end, WIRE - 6).shut(end);
            int[] wire = even.wire(1 - end);
            String last = Arrays.toString(Arrays.copyOfRange(wire, WIRE - 6, WIRE));
            Check.is("room of 6", Rig.bytes(2, 7, 0, 0, 0, 6), last);
            for (int bytes = WIRE - 5; bytes <= WIRE; bytes++) {
                Rig full = new Rig().fill(1 - end, bytes).shut(end);
                Check.is("no room for it", bytes, full.x.end(1 - end, 1));
            }
        }
    }

    private static void whatWasDoneStays() {
        Check.sentence("what was done by the FRAME before stays");
        Rig settings = new Rig().open(1).fill(0, WIRE - 3);
        settings.x.setting(0, 1, 20);
        Check.error("SETTINGS", () -> settings.x.come(1, 6));
        Check.is("known", 20, settings.x.end(1, 9));
        Check.is("ROOM", 20, settings.x.stream(1, 1, 1));
        Rig refused = new Rig();
        refused.x.setting(1, 2, 0);
        refused.settle();
        refused.fill(0, WIRE - 4).put(1, Rig.frame(Rig.HEADERS, 0, 5, 64, 1, 'a', 0));
        Check.error("HEADERS refused", () -> refused.x.come(1, 8));
        Check.is("CLOSED", Rig.CLOSED, refused.x.stream(1, 5, 0));
        Check.is("the block was heard", 1, refused.x.end(1, 3));
        Rig heard = Rig.inState(1, Rig.HEARD).fill(0, WIRE - 4);
        heard.put(1, Rig.frame(Rig.HEADERS, 0, 1, 64, 1, 'a', 0));
        Check.error("HEADERS on HEARD", () -> heard.x.come(1, 8));
        Check.is("CLOSED", Rig.CLOSED, heard.x.stream(1, 1, 0));
        Check.is("the block was heard", 1, heard.x.end(1, 3));
        Rig data = new Rig().open(1).fill(0, WIRE - 4);
        data.put(1, Rig.frame(Rig.DATA, 0, 1, new int[17]));
        Check.error("DATA", () -> data.x.come(1, 21));
        Check.is("CLOSED", Rig.CLOSED, data.x.stream(1, 1, 0));
        Check.is("the connection's DUE fell", 7, data.x.stream(1, 0, 2));
    }

    private static void wholeByItsLastByte() {
        Check.sentence("A FRAME is four bytes, LENGTH, TYPE, FLAGS, STREAM, and LENGTH bytes more");
        for (int length : new int[] {0, 1, 2, 20, 39, 40}) {
            Rig rig = new Rig();
            rig.put(1, Rig.frame(9, 0, 0, new int[length]));
            Check.is("all but one of " + length, 0, rig.x.come(1, 3 + length));
            Check.is("the last one", 1, rig.x.come(1, 1));
        }
        Rig two = new Rig().open(1);
        two.x.headers(0, 1, false);
        two.x.headers(0, 1, false);
        Check.is("a frame of four bytes and the front of the next", 1, two.x.come(1, 7));
        Check.is("the next", 1, two.x.come(1, 1));
    }

    private static void longestFrame() {
        Check.sentence("LENGTH above 40: 40 is not");
        int[] rest = new int[40];
        rest[0] = 255;
        rest[39] = 7;
        Rig rig = new Rig().open(1);
        rig.x.window(1, 0, 60);
        rig.x.window(1, 1, 60);
        rig.settle();
        Check.is("DATA of 40", 0, rig.errorOf(1, Rig.DATA, 0, 1, rest));
        Check.is("came", "40 262", rig.x.stream(1, 1, 3) + " " + rig.x.stream(1, 1, 4));
        int[] limits = new int[40];
        Arrays.fill(limits, 35);
        limits[39] = 129;
        Check.is("HEADERS of 40", 0, rig.errorOf(1, Rig.HEADERS, 0, 1, limits));
        Check.is("heard to the last byte", "m=get", rig.fields(1, 1));
    }

    private static void tooLong() {
        Check.sentence("LENGTH above 40: SIZE 6, as soon as that byte came");
        for (int end = 0; end < 2; end++) {
            for (int length : new int[] {41, 42, 128, 255}) {
                for (int type : ALL_TYPES) {
                    int e = end;
                    Rig rig = new Rig();
                    rig.put(end, length, type, 0, 1, 0);
                    Check.error(length + " of type " + type, () -> rig.x.come(e, 60));
                    Check.is("SIZE", Rig.SIZE, rig.x.end(end, 0));
                    Check.is("all behind stay", 4, rig.x.end(end, 1));
                }
            }
        }
    }

    private static void tooLongBeforeAll() {
        Check.sentence("In this order: SIZE 6 before PROTOCOL 1, and behind a FRAME that was whole");
        Rig rig = new Rig();
        rig.put(1, 1, Rig.PING, 0, 0, 5, 41, Rig.PING, 0, 99, 1);
        Check.error("in one piece", () -> rig.x.come(1, 60));
        Check.is("the first is answered", Rig.bytes(1, 6, 1, 0, 5, 2, 7, 0, 0, 0, 6), rig.wireText(0));
        Check.is("SIZE", Rig.SIZE, rig.x.end(1, 0));
        Check.is("the bytes behind it stay", 4, rig.x.end(1, 1));
    }

    private static void typesThatAreNone() {
        Check.sentence("TYPES that are none are not looked at");
        for (int type : new int[] {2, 5, 9, 10, 16, 64, 127, 128, 129, 255}) {
            for (int length : new int[] {0, 1, 2, 40}) {
                Rig rig = new Rig().open(1);
                rig.put(1, Rig.frame(type, 255, 14, new int[length]));
                Check.is("whole", 1, rig.x.come(1, 4 + length));
                rig.settle();
                Rig same = new Rig().open(1);
                Check.is("nothing is done by " + type, "", State.difference(same.all(), rig.all()));
            }
        }
    }

    private static void lowestFlag() {
        Check.sentence("FLAGS: the lowest bit is LAST, or ANSWER; others are not looked at");
        for (int flags : new int[] {0, 2, 128, 254}) {
            Rig rig = new Rig().open(1);
            Check.is("HEADERS", 0, rig.errorOf(1, Rig.HEADERS, flags, 1));
            Check.is("DATA", 0, rig.errorOf(1, Rig.DATA, flags, 1));
            Check.is("no LAST in " + flags, Rig.OPEN, rig.x.stream(1, 1, 0));
            Check.is("PING", 0, rig.errorOf(1, Rig.PING, flags, 0, 3));
            Check.is("SETTINGS", 0, rig.errorOf(1, Rig.SETTINGS, flags, 0, 2, 3));
            Check.is("answered", Rig.bytes(1, 6, 1, 0, 3, 0, 4, 1, 0), rig.wireText(0));
            Check.is("no ANSWER in " + flags, 0, rig.x.end(1, 4));
        }
        for (int flags : new int[] {1, 3, 129, 255}) {
            Check.is("HEADERS", Rig.HEARD, heardLast(Rig.HEADERS, flags));
            Check.is("DATA", Rig.HEARD, heardLast(Rig.DATA, flags));
            Rig rig = new Rig().open(1);
            Check.is("PING", 0, rig.errorOf(1, Rig.PING, flags, 0, 3));
            Check.is("SETTINGS", 0, rig.errorOf(1, Rig.SETTINGS, flags, 0));
            Check.is("ANSWERS in " + flags, 2, rig.x.end(1, 4));
            Check.is("not answered", 0, rig.x.end(0, 1));
            Check.is("RESET", 0, rig.errorOf(1, Rig.RESET, flags, 1, 0));
            Check.is("WINDOW", 0, rig.errorOf(1, Rig.WINDOW, flags, 0, 1));
            Check.is("AWAY", 0, rig.errorOf(1, Rig.AWAY, flags, 0, 0, 0));
            Check.is("they are done", "4 25 0", rig.x.stream(1, 1, 0) + " " + rig.x.stream(1, 0, 1) + " " + rig.x.end(1, 7));
        }
    }

    private static int heardLast(int type, int flags) {
        Rig rig = new Rig().open(1);
        rig.hear(1, type, flags, 1);
        return rig.x.stream(1, 1, 0);
    }

    private static void streamsOfFrames() {
        Check.sentence("DATA, HEADERS, RESET with a STREAM that is none of 1, 3, .. 13: PROTOCOL 1");
        for (int stream : new int[] {0, 2, 4, 12, 14, 15, 16, 129, 255}) {
            wrongStream(Rig.DATA, 0, stream);
            wrongStream(Rig.HEADERS, 0, stream);
            wrongStream(Rig.RESET, 0, stream, 0);
        }
        for (int stream = 1; stream <= 13; stream += 2) {
            Rig rig = new Rig();
            Check.is("HEADERS of " + stream, 0, rig.errorOf(1, Rig.HEADERS, 0, stream));
            Check.is("DATA of " + stream, 0, rig.errorOf(1, Rig.DATA, 0, stream, 1));
            Check.is("WINDOW of " + stream, 0, rig.errorOf(1, Rig.WINDOW, 0, stream, 1));
            Check.is("RESET of " + stream, 0, rig.errorOf(1, Rig.RESET, 0, stream, 0));
            Check.is("it alone", "4 17 15 1 1 0", rig.x.stream(1, stream, 0) + " " + rig.windows(1, stream) + " "
                    + rig.x.stream(1, stream, 3) + " " + rig.x.stream(1, stream, 4) + " " + rig.x.end(1, 5));
        }
        Check.sentence("SETTINGS, PING, AWAY with one that is not 0: PROTOCOL 1");
        for (int stream : new int[] {1, 2, 13, 255}) {
            wrongStream(Rig.SETTINGS, 0, stream, 0, 0);
            wrongStream(Rig.SETTINGS, 1, stream);
            wrongStream(Rig.PING, 0, stream, 0);
            wrongStream(Rig.PING, 1, stream, 0);
            wrongStream(Rig.AWAY, 0, stream, 0, 0);
        }
        Check.sentence("WINDOW with one neither: PROTOCOL 1");
        for (int stream : new int[] {2, 12, 14, 15, 255}) {
            wrongStream(Rig.WINDOW, 0, stream, 1);
        }
        Check.is("0 is right", 0, new Rig().errorOf(1, Rig.WINDOW, 0, 0, 1));
    }

    private static void wrongStream(int type, int flags, int stream, int... rest) {
        for (int end = 0; end < 2; end++) {
            Rig rig = new Rig().open(1);
            Check.is("type " + type + " of " + stream, Rig.PROTOCOL, rig.errorOf(end, type, flags, stream, rest));
            int greatestHeard = end == 1 ? 1 : 0;
            Check.is("AWAY alone", Rig.bytes(2, 7, 0, 0, greatestHeard, 1), rig.wireText(1 - end));
            Check.is("not done", "1 16 16", rig.x.stream(end, 1, 0) + " " + rig.windows(end, 1));
            Check.is("nor for the connection", "24 24", rig.windows(end, 0));
            Check.is("not counted", "0 -1", rig.x.end(end, 4) + " " + rig.x.end(end, 7));
        }
    }

    private static void lengthsOfFrames() {
        Check.sentence("SETTINGS, RESET, PING, AWAY, WINDOW of another LENGTH than 2 (ANSWER: 0), 1, 1, 2, 1: "
                + "PROTOCOL 1");
        lengths(Rig.SETTINGS, 0, 0, 2);
        lengths(Rig.SETTINGS, 1, 0, 0);
        lengths(Rig.RESET, 0, 1, 1);
        lengths(Rig.PING, 0, 0, 1);
        lengths(Rig.PING, 1, 0, 1);
        lengths(Rig.AWAY, 0, 0, 2);
        lengths(Rig.WINDOW, 0, 0, 1);
        lengths(Rig.WINDOW, 0, 1, 1);
    }

    private static void lengths(int type, int flags, int stream, int right) {
        for (int length : new int[] {0, 1, 2, 3, 4, 40}) {
            int[] rest = new int[length];
            Arrays.fill(rest, 1);
            Rig rig = new Rig().open(1);
            int due = length == right ? 0 : Rig.PROTOCOL;
            Check.is("type " + type + " of " + length, due, rig.errorOf(1, type, flags, stream, rest));
            if (length != right) {
                Check.is("not done", "1 16 24", rig.x.stream(1, 1, 0) + " " + rig.x.stream(1, 1, 1) + " " + rig.x.stream(1, 0, 1));
                Check.is("not counted nor kept", "0 -1", rig.x.end(1, 4) + " " + rig.x.end(1, 7));
            }
        }
    }
}
