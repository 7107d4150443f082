/** Promise 8: reset, and RESET frames that come. */
final class ResetTest {
    public static void main(String[] args) {
        closesBoth();
        onlyLiveStreams();
        wrongNumbers();
        noRoomOnTheWire();
        heardOnStates();
        Check.end("ResetTest");
    }

    private static void closesBoth() {
        Rig rig = new Rig().open(2);
        Check.is("by the end 1", 0, rig.x.reset(1, 3, 255));
        Check.is("bytes", Rig.bytes(1, 3, 0, 3, 255), rig.wireText(0));
        Check.is("CLOSED here", Rig.CLOSED, rig.x.stream(1, 3, 0));
        Check.is("one is live here", 1, rig.x.end(1, 5));
        Check.is("OPEN there", Rig.OPEN, rig.x.stream(0, 3, 0));
        rig.comeAll(0);
        Check.is("CLOSED there", Rig.CLOSED, rig.x.stream(0, 3, 0));
        Check.is("the other one stays", Rig.OPEN, rig.x.stream(0, 1, 0));
        Check.is("by the end 0", 0, rig.x.reset(0, 1, 0));
        rig.comeAll(1);
        Check.is("none is live", "0 0", rig.x.end(0, 5) + " " + rig.x.end(1, 5));
    }

    private static void onlyLiveStreams() {
        Rig rig = new Rig();
        Check.state("IDLE", () -> rig.x.reset(0, 1, 0));
        rig.open(2);
        rig.x.headers(0, 1, true);
        rig.settle();
        Check.is("HEARD", 0, rig.x.reset(1, 1, 0));
        Check.is("SENT", 0, rig.x.reset(0, 1, 0));
        Check.state("CLOSED", () -> rig.x.reset(0, 1, 0));
        rig.settle();
        Check.is("no RESET of a RESET", "0 0", rig.x.end(0, 1) + " " + rig.x.end(1, 1));
    }

    private static void wrongNumbers() {
        Rig rig = new Rig().open(1);
        Check.argument("code -1", () -> rig.x.reset(0, 1, -1));
        Check.argument("code 256", () -> rig.x.reset(0, 1, 256));
        for (int stream : new int[] {-1, 0, 2, 14, 15}) {
            Check.argument("stream " + stream, () -> rig.x.reset(0, stream, 0));
        }
        Check.argument("end -1", () -> rig.x.reset(-1, 1, 0));
        Check.argument("end 2", () -> rig.x.reset(2, 1, 0));
        Check.argument("the number before the state", () -> rig.x.reset(0, 3, 256));
        Check.is("OPEN still", Rig.OPEN, rig.x.stream(0, 1, 0));
    }

    private static void noRoomOnTheWire() {
        Rig rig = new Rig().open(1).pings(1, 48);
        String before = rig.all();
        Check.state("240 + 5", () -> rig.x.reset(0, 1, 0));
        Check.is("what is changed", "", State.difference(before, rig.all()));
        rig.x.come(1, 5);
        Check.is("235 + 5", 0, rig.x.reset(0, 1, 0));
        Rig shut = new Rig().open(1);
        shut.errorOfBytes(0, 99);
        Check.state("SHUT", () -> shut.x.reset(0, 1, 0));
    }

    private static void heardOnStates() {
        Check.is("IDLE at the end 1", Rig.PROTOCOL, new Rig().errorOf(1, Rig.RESET, 0, 1, 5));
        Check.is("IDLE at the end 0", Rig.PROTOCOL, new Rig().errorOf(0, Rig.RESET, 0, 13, 5));
        Rig rig = new Rig().open(1);
        Check.is("OPEN", 0, rig.errorOf(0, Rig.RESET, 0, 1, 5));
        Check.is("CLOSED", 0, rig.errorOf(0, Rig.RESET, 0, 1, 5));
        Check.is("CLOSED still", Rig.CLOSED, rig.x.stream(0, 1, 0));
    }
}
