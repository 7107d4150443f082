/** Promise 11: DATA that comes. */
final class HearDataTest {
    public static void main(String[] args) {
        isTaken();
        idle();
        aboveTheConnection();
        aboveTheStream();
        heardOrClosed();
        belowNothing();
        lastOnSent();
        noRoomForTheReset();
        Check.end("HearDataTest");
    }

    private static void isTaken() {
        Rig rig = new Rig().open(1);
        rig.hear(1, Rig.DATA, 0, 1, 1, 2, 255);
        Check.is("came", 3, rig.x.stream(1, 1, 3));
        Check.is("SUM", 258, rig.x.stream(1, 1, 4));
        Check.is("DUE", "13 21", rig.x.stream(1, 1, 2) + " " + rig.x.stream(1, 0, 2));
        Check.is("ROOM", "16 24", rig.x.stream(1, 1, 1) + " " + rig.x.stream(1, 0, 1));
        rig.hear(1, Rig.DATA, 1, 1, 4);
        Check.is("more came", "4 262", rig.x.stream(1, 1, 3) + " " + rig.x.stream(1, 1, 4));
        Check.is("LAST", Rig.HEARD, rig.x.stream(1, 1, 0));
        Check.is("nothing is answered", 0, rig.x.end(0, 1));
    }

    private static void idle() {
        Rig rig = new Rig();
        Check.is("IDLE before FLOW", Rig.PROTOCOL, rig.errorOf(1, Rig.DATA, 0, 1, new int[25]));
        Check.is("DUE stays", 24, rig.x.stream(1, 0, 2));
        Check.is("at the end 0", Rig.PROTOCOL, new Rig().errorOf(0, Rig.DATA, 0, 1));
    }

    private static void aboveTheConnection() {
        Rig rig = new Rig().open(1);
        Check.is("25 of 24", Rig.FLOW, rig.errorOf(1, Rig.DATA, 0, 1, new int[25]));
        Check.is("DUE stays", "16 24", rig.x.stream(1, 1, 2) + " " + rig.x.stream(1, 0, 2));
        Check.is("OPEN still", Rig.OPEN, rig.x.stream(1, 1, 0));
        Rig closed = new Rig().open(1);
        closed.x.reset(1, 1, 0);
        Check.is("of a CLOSED one too", Rig.FLOW, closed.errorOf(1, Rig.DATA, 0, 1, new int[25]));
        Check.is("RESET, then AWAY", Rig.bytes(1, 3, 0, 1, 0, 2, 7, 0, 0, 1, 3), closed.wireText(0));
    }

    private static void aboveTheStream() {
        Rig rig = new Rig().open(1);
        rig.hear(1, Rig.DATA, 1, 1, new int[17]);
        Check.is("17 of 16", Rig.CLOSED, rig.x.stream(1, 1, 0));
        Check.is("RESET 3", Rig.bytes(1, 3, 0, 1, 3), rig.wireText(0));
        Check.is("the connection's falls", 7, rig.x.stream(1, 0, 2));
        Check.is("the stream's stays", 16, rig.x.stream(1, 1, 2));
        Check.is("nothing came", 0, rig.x.stream(1, 1, 3));
        Rig exact = new Rig().open(1);
        exact.hear(1, Rig.DATA, 0, 1, new int[16]);
        Check.is("16 of 16", "1 0", exact.x.stream(1, 1, 0) + " " + exact.x.stream(1, 1, 2));
    }

    private static void heardOrClosed() {
        Rig rig = new Rig().open(1);
        rig.hear(1, Rig.DATA, 1, 1, 1);
        rig.hear(1, Rig.DATA, 0, 1, 1, 1, 1);
        Check.is("HEARD", Rig.CLOSED, rig.x.stream(1, 1, 0));
        Check.is("RESET 5", Rig.bytes(1, 3, 0, 1, 5), rig.wireText(0));
        Check.is("the connection's falls", 20, rig.x.stream(1, 0, 2));
        Check.is("the stream's stays", 15, rig.x.stream(1, 1, 2));
        Check.is("nothing came", 1, rig.x.stream(1, 1, 3));
        rig.comeAll(0);
        rig.hear(1, Rig.DATA, 0, 1, new int[20]);
        Check.is("CLOSED: 5, not 3", Rig.bytes(1, 3, 0, 1, 5), rig.wireText(0));
        Check.is("the connection's falls", 0, rig.x.stream(1, 0, 2));
        rig.hear(1, Rig.DATA, 0, 1);
        Check.is("0 of 0", 0, rig.x.end(1, 0));
        Check.is("1 of 0", Rig.FLOW, rig.errorOf(1, Rig.DATA, 0, 1, 0));
    }

    private static void belowNothing() {
        Rig rig = new Rig().open(1);
        rig.hear(1, Rig.DATA, 0, 1, 1, 1);
        rig.x.setting(1, 1, 1);
        Check.is("DUE", -1, rig.x.stream(1, 1, 2));
        rig.settle();
        rig.hear(1, Rig.DATA, 0, 1);
        Check.is("0 is more than -1", Rig.CLOSED, rig.x.stream(1, 1, 0));
        Check.is("RESET 3", Rig.bytes(1, 3, 0, 1, 3), rig.wireText(0));
    }

    private static void lastOnSent() {
        Rig rig = new Rig().open(1);
        rig.x.data(0, 1, 0, 0, true);
        rig.settle();
        rig.hear(0, Rig.DATA, 0, 1, 5);
        Check.is("SENT", Rig.SENT, rig.x.stream(0, 1, 0));
        rig.hear(0, Rig.DATA, 1, 1, 6);
        Check.is("CLOSED", Rig.CLOSED, rig.x.stream(0, 1, 0));
        Check.is("came", "2 11", rig.x.stream(0, 1, 3) + " " + rig.x.stream(0, 1, 4));
    }

    private static void noRoomForTheReset() {
        Rig rig = new Rig().open(1).pings(0, 48);
        rig.put(1, Rig.frame(Rig.DATA, 0, 1, new int[17]));
        Check.error("240 + 5", () -> rig.x.come(1, 21));
        Check.is("SIZE", Rig.SIZE, rig.x.end(1, 0));
        Check.is("CLOSED stays", Rig.CLOSED, rig.x.stream(1, 1, 0));
        Check.is("what fell stays", 7, rig.x.stream(1, 0, 2));
    }
}
