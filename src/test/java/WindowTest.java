/** Promise 7: window, and WINDOW frames that come. */
final class WindowTest {
    public static void main(String[] args) {
        growsTheDue();
        upTo250();
        onlyLiveStreams();
        wrongNumbers();
        noRoomOnTheWire();
        heardOnStates();
        heardAbove250();
        Check.end("WindowTest");
    }

    private static void growsTheDue() {
        Rig rig = new Rig().open(1);
        Check.is("of a stream", 17, rig.x.window(1, 1, 1));
        Check.is("of the connection", 84, rig.x.window(1, 0, 60));
        Check.is("bytes", Rig.bytes(1, 8, 0, 1, 1, 1, 8, 0, 0, 60), rig.wireText(0));
        Check.is("the ROOM here stays", "16 24", rig.x.stream(1, 1, 1) + " " + rig.x.stream(1, 0, 1));
        Check.is("not yet there", "16 24", rig.x.stream(0, 1, 1) + " " + rig.x.stream(0, 0, 1));
        rig.comeAll(0);
        Check.is("there", "17 84", rig.x.stream(0, 1, 1) + " " + rig.x.stream(0, 0, 1));
        Check.is("the DUE there stays", "16 24", rig.x.stream(0, 1, 2) + " " + rig.x.stream(0, 0, 2));
        Check.is("by the end 0 too", 20, rig.x.window(0, 1, 4));
    }

    private static void upTo250() {
        Rig rig = new Rig().open(1);
        for (int i = 0; i < 3; i++) {
            rig.x.window(0, 0, 60);
            rig.x.window(0, 1, 60);
        }
        rig.settle();
        Check.state("251", () -> rig.x.window(0, 0, 47));
        Check.is("250", 250, rig.x.window(0, 0, 46));
        Check.state("above", () -> rig.x.window(0, 0, 1));
        Check.state("251 of the stream", () -> rig.x.window(0, 1, 55));
        Check.is("nothing grew", 196, rig.x.stream(0, 1, 2));
        Check.is("250 of the stream", 250, rig.x.window(0, 1, 54));
        Check.is("it comes", 2, rig.comeAll(1));
        Check.is("ROOM", "250 250", rig.x.stream(1, 0, 1) + " " + rig.x.stream(1, 1, 1));
    }

    private static void onlyLiveStreams() {
        Rig rig = new Rig();
        Check.state("IDLE", () -> rig.x.window(0, 1, 1));
        rig.open(1);
        rig.x.headers(0, 1, true);
        Check.is("SENT", 17, rig.x.window(0, 1, 1));
        rig.settle();
        Check.is("HEARD", 17, rig.x.window(1, 1, 1));
        rig.x.reset(1, 1, 0);
        Check.state("CLOSED", () -> rig.x.window(1, 1, 1));
        Check.is("its DUE stays", 17, rig.x.stream(1, 1, 2));
    }

    private static void wrongNumbers() {
        Rig rig = new Rig().open(1);
        for (int n : new int[] {0, 61, -1, Integer.MAX_VALUE, Integer.MIN_VALUE}) {
            Check.argument("window " + n, () -> rig.x.window(0, 1, n));
        }
        for (int stream : new int[] {-1, 2, 14, 15}) {
            Check.argument("stream " + stream, () -> rig.x.window(0, stream, 1));
        }
        Check.argument("end -1", () -> rig.x.window(-1, 0, 1));
        Check.argument("end 2", () -> rig.x.window(2, 0, 1));
        Check.argument("the number before the state", () -> rig.x.window(0, 3, 61));
    }

    private static void noRoomOnTheWire() {
        Rig rig = new Rig().open(1).pings(1, 47);
        Check.is("235 + 5", 17, rig.x.window(0, 1, 1));
        String before = rig.all();
        Check.state("240 + 5", () -> rig.x.window(0, 1, 1));
        Check.is("what is changed", "", State.difference(before, rig.all()));
        rig.errorOfBytes(0, 99);
        Check.state("SHUT", () -> rig.x.window(0, 0, 1));
    }

    private static void heardOnStates() {
        Check.is("IDLE", Rig.PROTOCOL, new Rig().errorOf(1, Rig.WINDOW, 0, 1, 5));
        Check.is("0 for the connection", Rig.PROTOCOL, new Rig().errorOf(1, Rig.WINDOW, 0, 0, 0));
        Check.is("0 for a stream", Rig.PROTOCOL, new Rig().open(1).errorOf(1, Rig.WINDOW, 0, 1, 0));
        Rig rig = new Rig().open(1);
        rig.x.reset(1, 1, 0);
        Check.is("CLOSED", 0, rig.errorOf(1, Rig.WINDOW, 0, 1, 255));
        Check.is("nothing grew", 16, rig.x.stream(1, 1, 1));
        Check.is("0 for a CLOSED one", Rig.PROTOCOL, rig.errorOf(1, Rig.WINDOW, 0, 1, 0));
    }

    private static void heardAbove250() {
        Rig rig = new Rig().open(1);
        Check.is("250", 0, rig.errorOf(1, Rig.WINDOW, 0, 1, 234));
        Check.is("ROOM", 250, rig.x.stream(1, 1, 1));
        Check.is("251", Rig.FLOW, rig.errorOf(1, Rig.WINDOW, 0, 1, 1));
        Check.is("it does not grow", 250, rig.x.stream(1, 1, 1));
        Rig other = new Rig();
        Check.is("251 of the connection", Rig.FLOW, other.errorOf(0, Rig.WINDOW, 0, 0, 227));
        Check.is("it does not grow", 24, other.x.stream(0, 0, 1));
        Check.is("250 of the connection", 0, new Rig().errorOf(0, Rig.WINDOW, 0, 0, 226));
    }
}
