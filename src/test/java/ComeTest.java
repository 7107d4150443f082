/** Promise 11: come, and what is done with any frame. */
final class ComeTest {
    public static void main(String[] args) {
        inPieces();
        atMostWhatIsThere();
        wrongNumbers();
        anErrorStopsIt();
        anErrorTellsTheGreatestStream();
        awayNeedsRoom();
        tooLongAtOnce();
        longestFrame();
        unknownTypes();
        wrongStreams();
        wrongLengths();
        otherFlags();
        away();
        Check.end("ComeTest");
    }

    private static void inPieces() {
        Rig rig = new Rig();
        rig.list(0, "ab=cd").x.headers(0, 0, false);
        int length = rig.x.end(1, 1);
        for (int i = 1; i < length; i++) {
            Check.is("byte " + i, 0, rig.x.come(1, 1));
            Check.is("on the way", length - i, rig.x.end(1, 1));
            Check.is("IDLE still", Rig.IDLE, rig.x.stream(1, 1, 0));
        }
        Check.is("the last byte", 1, rig.x.come(1, 1));
        Check.is("OPEN", Rig.OPEN, rig.x.stream(1, 1, 0));
        rig.pings(1, 3);
        Check.is("one and a half", 1, rig.x.come(1, 7));
        Check.is("the other half and one more", 2, rig.x.come(1, 8));
        rig.x.headers(0, 1, false);
        Check.is("a frame without more", 0, rig.x.come(1, 3));
        Check.is("is whole by its head", 1, rig.x.come(1, 1));
    }

    private static void atMostWhatIsThere() {
        Rig rig = new Rig();
        Check.nothing("nothing", () -> rig.x.come(0, 60));
        rig.pings(1, 13);
        Check.is("60 of 65", 12, rig.x.come(1, 60));
        Check.is("5 are left", 5, rig.x.end(1, 1));
        Check.is("5 of 60", 1, rig.x.come(1, 60));
        Check.nothing("nothing is left", () -> rig.x.come(1, 1));
        Check.is("each end has its own way", 13, rig.comeAll(0));
    }

    private static void wrongNumbers() {
        Rig rig = new Rig();
        for (int n : new int[] {0, 61, -1, Integer.MIN_VALUE, Integer.MAX_VALUE}) {
            Check.argument("come " + n, () -> rig.x.come(0, n));
        }
        Check.argument("end -1", () -> rig.x.come(-1, 1));
        Check.argument("end 2", () -> rig.x.come(2, 1));
    }

    private static void anErrorStopsIt() {
        Rig rig = new Rig().pings(1, 3);
        rig.x.alter(1, 6, Rig.PING ^ Rig.RESET);
        Check.error("the second frame", () -> rig.x.come(1, 60));
        Check.is("PROTOCOL", Rig.PROTOCOL, rig.x.end(1, 0));
        Check.is("the third stays", 5, rig.x.end(1, 1));
        Check.is("the first was answered, then AWAY", Rig.bytes(1, 6, 1, 0, 0, 2, 7, 0, 0, 0, 1), rig.wireText(0));
        Check.state("SHUT", () -> rig.x.come(1, 1));
        Check.argument("the number before SHUT", () -> rig.x.come(1, 0));
        Check.is("it comes there", 2, rig.comeAll(0));
        Check.is("AWAY is kept", 1, rig.x.end(0, 7));
        Check.is("the other end is not SHUT", 0, rig.x.end(0, 0));
        Check.is("bytes may still be altered", 2, rig.x.alter(1, 4, 0));
        Check.state("SHUT though nothing is there", () -> {
            Rig empty = new Rig();
            empty.errorOfBytes(1, 41, 0, 0, 0, 0);
            return empty.x.come(1, 1);
        });
    }

    private static void anErrorTellsTheGreatestStream() {
        Rig rig = new Rig().open(3);
        rig.x.reset(0, 5, 0);
        rig.settle();
        rig.errorOfBytes(1, 41);
        Check.is("AWAY", Rig.bytes(2, 7, 0, 0, 5, 6), rig.wireText(0));
        rig.comeAll(0);
        Check.is("what it said", 256 * 5 + 6, rig.x.end(0, 7));
        Rig opener = new Rig().open(2);
        opener.x.headers(1, 1, false);
        opener.comeAll(0);
        opener.errorOfBytes(0, 41);
        Check.is("at the end 0: what it heard", Rig.bytes(2, 7, 0, 0, 1, 6), opener.wireText(1));
        Rig refused = new Rig();
        refused.x.setting(1, 2, 0);
        refused.x.headers(0, 0, false);
        refused.comeAll(1);
        refused.comeAll(0);
        refused.comeAll(1);
        refused.errorOfBytes(1, 41);
        Check.is("a refused one counts", Rig.bytes(2, 7, 0, 0, 1, 6), refused.wireText(0));
        Rig block = new Rig().open(1);
        block.errorOf(1, Rig.HEADERS, 0, 3, 31);
        Check.is("a wrong block does not", Rig.bytes(2, 7, 0, 0, 1, 9), block.wireText(0));
    }

    private static void awayNeedsRoom() {
        Rig rig = new Rig().pings(0, 48);
        rig.x.come(0, 6);
        rig.comeAll(1);
        Check.is("234 + 6", Rig.SIZE, rig.errorOfBytes(1, 41));
        Check.is("AWAY", 240, rig.x.end(0, 1));
        Check.is("its last byte", Rig.SIZE, rig.x.alter(0, 239, 0));
        Rig full = new Rig().pings(0, 47);
        Check.is("235 + 6", Rig.SIZE, full.errorOfBytes(1, 41));
        Check.is("no AWAY", 235, full.x.end(0, 1));
    }

    private static void tooLongAtOnce() {
        Rig rig = new Rig().pings(1, 2);
        rig.x.alter(1, 5, 1 ^ 41);
        Check.is("the first frame", 1, rig.x.come(1, 5));
        Check.error("41", () -> rig.x.come(1, 3));
        Check.is("SIZE", Rig.SIZE, rig.x.end(1, 0));
        Check.is("the bytes behind stay", 4, rig.x.end(1, 1));
        Check.is("whatever the type", Rig.SIZE, new Rig().errorOfBytes(0, 255));
    }

    private static void longestFrame() {
        int[] rest = new int[40];
        Rig rig = new Rig();
        rig.put(1, Rig.frame(50, 0, 77, rest));
        Check.is("43 of 44", 0, rig.x.come(1, 43));
        Check.is("44 of 44", 1, rig.x.come(1, 1));
        Rig wide = new Rig().open(1);
        wide.x.window(1, 0, 60);
        wide.x.window(1, 1, 60);
        wide.settle();
        rest[0] = 255;
        rest[39] = 7;
        Check.is("40 bytes of data", 0, wide.errorOf(1, Rig.DATA, 0, 1, rest));
        Check.is("came", 40, wide.x.stream(1, 1, 3));
        Check.is("SUM", 262, wide.x.stream(1, 1, 4));
        Check.is("DUE", "36 44", wide.x.stream(1, 1, 2) + " " + wide.x.stream(1, 0, 2));
    }

    private static void unknownTypes() {
        for (int type : new int[] {2, 5, 9, 10, 128, 255}) {
            Rig rig = new Rig().open(1);
            String before = rig.all();
            rig.put(1, Rig.frame(type, 255, 255, 1, 2, 3, 4, 5, 6));
            Check.is("whole all the same", 1, rig.x.come(1, 10));
            Check.is("not looked at", before, rig.all());
        }
    }

    private static void wrongStreams() {
        for (int type : new int[] {Rig.DATA, Rig.HEADERS, Rig.RESET}) {
            for (int stream : new int[] {0, 2, 12, 14, 15, 255}) {
                int[] rest = type == Rig.RESET ? new int[] {0} : new int[0];
                Rig rig = new Rig();
                Check.is("type " + type + " of " + stream, Rig.PROTOCOL, rig.errorOf(1, type, 0, stream, rest));
            }
        }
        for (int stream : new int[] {1, 2, 255}) {
            Check.is("SETTINGS", Rig.PROTOCOL, new Rig().open(1).errorOf(1, Rig.SETTINGS, 0, stream, 0, 0));
            Check.is("an ANSWER", Rig.PROTOCOL, new Rig().open(1).errorOf(1, Rig.SETTINGS, 1, stream));
            Check.is("PING", Rig.PROTOCOL, new Rig().open(1).errorOf(1, Rig.PING, 0, stream, 0));
            Check.is("AWAY", Rig.PROTOCOL, new Rig().open(1).errorOf(1, Rig.AWAY, 0, stream, 0, 0));
        }
        for (int stream : new int[] {2, 14, 15, 255}) {
            Check.is("WINDOW", Rig.PROTOCOL, new Rig().open(1).errorOf(1, Rig.WINDOW, 0, stream, 1));
        }
        Rig rig = new Rig();
        Check.is("before the block", Rig.PROTOCOL, rig.errorOf(1, Rig.HEADERS, 0, 2, 64, 1, 'a', 0));
        Check.is("which is not heard", 0, rig.x.end(1, 3));
    }

    private static void wrongLengths() {
        int[] one = {1};
        int[] two = {1, 1};
        int[] three = {1, 1, 1};
        int[] none = {};
        lengths(Rig.RESET, 0, 1, one, none, two);
        lengths(Rig.SETTINGS, 0, 0, two, none, one, three);
        lengths(Rig.SETTINGS, 1, 0, none, one, two);
        lengths(Rig.PING, 0, 0, one, none, two);
        lengths(Rig.PING, 1, 0, one, none, two);
        lengths(Rig.AWAY, 0, 0, two, none, one, three);
        lengths(Rig.WINDOW, 0, 0, one, none, two);
        lengths(Rig.WINDOW, 0, 1, one, none, two);
    }

    private static void lengths(int type, int flags, int stream, int[] right, int[]... wrong) {
        Check.is("right, type " + type, 0, new Rig().open(1).errorOf(1, type, flags, stream, right));
        for (int[] rest : wrong) {
            Rig rig = new Rig().open(1);
            Check.is("wrong, type " + type, Rig.PROTOCOL, rig.errorOf(1, type, flags, stream, rest));
        }
    }

    private static void otherFlags() {
        Rig rig = new Rig().open(1);
        rig.hear(1, Rig.PING, 254, 0, 9);
        Check.is("no ANSWER", Rig.bytes(1, 6, 1, 0, 9), rig.wireText(0));
        rig.hear(1, Rig.PING, 255, 0, 9);
        Check.is("an ANSWER", 1, rig.x.end(1, 4));
        rig.hear(1, Rig.SETTINGS, 3, 0);
        Check.is("an ANSWER", 2, rig.x.end(1, 4));
        rig.hear(1, Rig.DATA, 254, 1);
        Check.is("not LAST", Rig.OPEN, rig.x.stream(1, 1, 0));
        rig.hear(1, Rig.HEADERS, 254, 1);
        Check.is("not LAST", Rig.OPEN, rig.x.stream(1, 1, 0));
        rig.hear(1, Rig.HEADERS, 255, 1);
        Check.is("LAST", Rig.HEARD, rig.x.stream(1, 1, 0));
    }

    private static void away() {
        Rig rig = new Rig();
        rig.hear(0, Rig.AWAY, 1, 0, 255, 254);
        Check.is("kept", 256 * 255 + 254, rig.x.end(0, 7));
        Check.is("not SHUT", 0, rig.x.end(0, 0));
        rig.hear(0, Rig.AWAY, 0, 0, 0, 0);
        Check.is("the next one too", 0, rig.x.end(0, 7));
        Check.state("no new stream", () -> rig.x.headers(0, 0, false));
        Rig other = new Rig();
        other.hear(1, Rig.AWAY, 0, 0, 3, 1);
        Check.is("at the end 1", 769, other.x.end(1, 7));
        Check.is("the end 0 has heard none", -1, other.x.end(0, 7));
        other.open(1);
        Check.is("the end 0 opens a stream", Rig.OPEN, other.x.stream(1, 1, 0));
    }
}
