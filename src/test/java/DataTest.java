/** Promise 6: data. */
final class DataTest {
    public static void main(String[] args) {
        sendsAndFalls();
        roomOfTheStream();
        roomOfTheConnection();
        roomBelowNothing();
        onlyOpenOrHeard();
        lastTakesTheState();
        wrongNumbers();
        noRoomOnTheWire();
        Check.end("DataTest");
    }

    private static void sendsAndFalls() {
        Rig rig = new Rig().open(1);
        Check.is("ROOM left", 13, rig.x.data(0, 1, 3, 200, false));
        Check.is("bytes", Rig.bytes(3, 0, 0, 1, 200, 200, 200), rig.wireText(1));
        Check.is("of the connection", 21, rig.x.stream(0, 0, 1));
        Check.is("no DUE falls here", 24, rig.x.stream(0, 0, 2));
        Check.is("nor the stream's", 16, rig.x.stream(0, 1, 2));
        Check.is("none at all", 13, rig.x.data(0, 1, 0, 0, true));
        rig.comeAll(1);
        Check.is("what came", 3, rig.x.stream(1, 1, 3));
        Check.is("SUM", 600, rig.x.stream(1, 1, 4));
        Check.is("the end 1 sends too", 6, rig.x.data(1, 1, 10, 255, false));
        rig.comeAll(0);
        Check.is("what came there", 10, rig.x.stream(0, 1, 3));
        Check.is("SUM there", 2550, rig.x.stream(0, 1, 4));
    }

    private static void roomOfTheStream() {
        Rig rig = new Rig().open(1);
        Check.state("17 of 16", () -> rig.x.data(0, 1, 17, 1, false));
        Check.is("nothing fell", 24, rig.x.stream(0, 0, 1));
        Check.is("16 of 16", 0, rig.x.data(0, 1, 16, 1, false));
        Check.state("1 of 0", () -> rig.x.data(0, 1, 1, 1, false));
        Check.is("0 of 0", 0, rig.x.data(0, 1, 0, 1, false));
    }

    private static void roomOfTheConnection() {
        Rig rig = new Rig().open(2);
        rig.x.data(0, 1, 16, 1, false);
        Check.state("9 of 8", () -> rig.x.data(0, 3, 9, 1, false));
        Check.is("nothing fell", 16, rig.x.stream(0, 3, 1));
        Check.is("8 of 8", 8, rig.x.data(0, 3, 8, 1, false));
        Check.state("1 of 0", () -> rig.x.data(0, 3, 1, 1, false));
        Check.is("0 of 0", 8, rig.x.data(0, 3, 0, 1, false));
        Check.is("the other direction is apart", 0, rig.x.data(1, 3, 16, 1, false));
    }

    private static void roomBelowNothing() {
        Rig rig = new Rig().open(1);
        rig.x.data(0, 1, 10, 1, false);
        rig.settle();
        rig.x.setting(1, 1, 4);
        rig.settle();
        Check.is("ROOM", -6, rig.x.stream(0, 1, 1));
        Check.state("0 of -6", () -> rig.x.data(0, 1, 0, 1, false));
        rig.x.window(1, 1, 6);
        rig.settle();
        Check.is("0 of 0", 0, rig.x.data(0, 1, 0, 1, false));
    }

    private static void onlyOpenOrHeard() {
        Rig rig = new Rig();
        Check.state("IDLE", () -> rig.x.data(0, 1, 0, 0, false));
        rig.open(1);
        rig.x.data(0, 1, 1, 1, true);
        Check.state("SENT", () -> rig.x.data(0, 1, 0, 0, false));
        rig.settle();
        Check.is("HEARD", 15, rig.x.data(1, 1, 1, 1, false));
        Check.is("HEARD, the last", 14, rig.x.data(1, 1, 1, 1, true));
        Check.state("CLOSED", () -> rig.x.data(1, 1, 0, 0, false));
    }

    private static void lastTakesTheState() {
        Rig rig = new Rig().open(1);
        rig.x.data(1, 1, 0, 0, true);
        Check.is("LAST on the wire", Rig.bytes(0, 0, 1, 1), rig.wireText(0));
        Check.is("SENT", Rig.SENT, rig.x.stream(1, 1, 0));
        rig.comeAll(0);
        Check.is("HEARD", Rig.HEARD, rig.x.stream(0, 1, 0));
        rig.x.data(0, 1, 0, 0, true);
        Check.is("CLOSED", Rig.CLOSED, rig.x.stream(0, 1, 0));
        rig.comeAll(1);
        Check.is("CLOSED at both", Rig.CLOSED, rig.x.stream(1, 1, 0));
    }

    private static void wrongNumbers() {
        Rig rig = new Rig().open(1);
        rig.x.setting(1, 1, 60);
        rig.settle();
        Check.argument("21 bytes", () -> rig.x.data(0, 1, 21, 0, false));
        Check.argument("-1 bytes", () -> rig.x.data(0, 1, -1, 0, false));
        Check.argument("a byte 256", () -> rig.x.data(0, 1, 1, 256, false));
        Check.argument("a byte -1", () -> rig.x.data(0, 1, 1, -1, false));
        Check.argument("a byte of none", () -> rig.x.data(0, 1, 0, 256, false));
        for (int stream : new int[] {-1, 0, 2, 14, 15}) {
            Check.argument("stream " + stream, () -> rig.x.data(0, stream, 1, 1, false));
        }
        Check.argument("end -1", () -> rig.x.data(-1, 1, 1, 1, false));
        Check.argument("end 2", () -> rig.x.data(2, 1, 1, 1, false));
        Check.argument("the number before the state", () -> rig.x.data(0, 3, 21, 1, false));
        Check.is("20 bytes", 40, rig.x.data(0, 1, 20, 255, false));
    }

    private static void noRoomOnTheWire() {
        Rig rig = new Rig().open(1).pings(1, 46);
        String before = rig.all();
        Check.state("230 + 11", () -> rig.x.data(0, 1, 7, 1, true));
        Check.is("what is changed", "", State.difference(before, rig.all()));
        Check.is("230 + 10", 10, rig.x.data(0, 1, 6, 1, true));
        rig.errorOfBytes(0, 99);
        Check.state("SHUT", () -> rig.x.data(0, 1, 0, 0, false));
    }
}
