/** Promise 9: setting, and SETTINGS frames that come. */
final class SettingTest {
    public static void main(String[] args) {
        answersTheOldOne();
        tellsTheOtherEnd();
        windowMovesDueAndRoom();
        windowOfNewStreams();
        streamsCountAtOnce();
        tableCountsAtOnce();
        wrongNumbers();
        noRoomOnTheWire();
        heardOutOfRange();
        noRoomForTheAnswer();
        Check.end("SettingTest");
    }

    private static void answersTheOldOne() {
        FrameStreams x = new FrameStreams();
        int[][] steps = {{0, 6, 3}, {0, 0, 6}, {0, 1, 0}, {1, 60, 16}, {1, 0, 60}, {2, 7, 2}, {2, 0, 7}, {2, 0, 0}};
        for (int[] step : steps) {
            Check.is("setting " + step[0], step[2], x.setting(1, step[0], step[1]));
        }
        Check.is("the other end's are its own", 16, x.setting(0, 1, 1));
    }

    private static void tellsTheOtherEnd() {
        Rig rig = new Rig();
        rig.x.setting(0, 0, 5);
        rig.x.setting(0, 1, 44);
        rig.x.setting(0, 2, 6);
        Check.is("bytes", Rig.bytes(2, 4, 0, 0, 0, 5, 2, 4, 0, 0, 1, 44, 2, 4, 0, 0, 2, 6), rig.wireText(1));
        Check.is("not yet known", 3, rig.x.end(1, 8));
        Check.is("they come", 3, rig.comeAll(1));
        Check.is("known", "5 44 6", rig.x.end(1, 8) + " " + rig.x.end(1, 9) + " " + rig.x.end(1, 10));
        Check.is("the end 0 knows others", "3 16 2", rig.x.end(0, 8) + " " + rig.x.end(0, 9) + " " + rig.x.end(0, 10));
        Check.is("answers", Rig.bytes(0, 4, 1, 0, 0, 4, 1, 0, 0, 4, 1, 0), rig.wireText(0));
        rig.comeAll(0);
        Check.is("counted", 3, rig.x.end(0, 4));
        Check.is("none at the end 1", 0, rig.x.end(1, 4));
    }

    private static void windowMovesDueAndRoom() {
        Rig rig = new Rig().open(2);
        rig.x.reset(0, 3, 0);
        rig.x.data(0, 1, 10, 1, false);
        rig.settle();
        rig.x.setting(1, 1, 2);
        Check.is("DUE at once", -8, rig.x.stream(1, 1, 2));
        Check.is("of a CLOSED one too", 2, rig.x.stream(1, 3, 2));
        Check.is("not of an IDLE one", 0, rig.x.stream(1, 5, 2));
        Check.is("not of the connection", 14, rig.x.stream(1, 0, 2));
        Check.is("no ROOM here", 16, rig.x.stream(1, 1, 1));
        Check.is("ROOM not yet", 6, rig.x.stream(0, 1, 1));
        rig.comeAll(0);
        Check.is("ROOM when it comes", -8, rig.x.stream(0, 1, 1));
        Check.is("of a CLOSED one", 2, rig.x.stream(0, 3, 1));
        Check.is("not of an IDLE one", 0, rig.x.stream(0, 5, 1));
        Check.is("not of the connection", 14, rig.x.stream(0, 0, 1));
        Check.is("no DUE there", 16, rig.x.stream(0, 1, 2));
        Check.is("the old one", 2, rig.x.setting(1, 1, 60));
        rig.comeAll(0);
        Check.is("by the difference", "50 50", rig.x.stream(1, 1, 2) + " " + rig.x.stream(0, 1, 1));
    }

    private static void windowOfNewStreams() {
        Rig rig = new Rig();
        rig.x.setting(0, 1, 5);
        rig.x.setting(1, 1, 30);
        rig.x.headers(0, 0, false);
        Check.is("told and not yet heard", "16 5", rig.x.stream(0, 1, 1) + " " + rig.x.stream(0, 1, 2));
        rig.comeAll(0);
        Check.is("heard", "30 5", rig.x.stream(0, 1, 1) + " " + rig.x.stream(0, 1, 2));
        rig.comeAll(1);
        Check.is("at the end 1", "5 30", rig.x.stream(1, 1, 1) + " " + rig.x.stream(1, 1, 2));
    }

    private static void streamsCountAtOnce() {
        Rig rig = new Rig();
        rig.x.headers(0, 0, false);
        rig.x.setting(1, 2, 0);
        rig.comeAll(1);
        Check.is("CLOSED at the end 1", Rig.CLOSED, rig.x.stream(1, 1, 0));
        Check.is("the end 0 may still", 3, rig.x.headers(0, 0, false));
        rig.comeAll(0);
        Check.state("and now no more", () -> rig.x.headers(0, 0, false));
    }

    private static void tableCountsAtOnce() {
        Rig rig = new Rig();
        rig.x.setting(1, 0, 5);
        rig.comeAll(0);
        rig.x.headers(0, 0, false);
        rig.x.setting(1, 0, 4);
        Check.error("35 is above 4 now", () -> rig.x.come(1, 60));
        Check.is("COMPRESSION", Rig.COMPRESSION, rig.x.end(1, 0));
        Rig other = new Rig();
        other.list(0, "a=b", "c=d", "e=f").x.headers(0, 0, false);
        other.comeAll(1);
        other.x.setting(1, 0, 0);
        Check.is("the table stays till a block says so", 3, other.x.end(1, 3));
        other.list(0, "e=f").x.headers(0, 1, false);
        other.comeAll(1);
        Check.is("heard by it", "e=f", other.fields(1, 1));
    }

    private static void wrongNumbers() {
        FrameStreams x = new FrameStreams();
        int[][] wrong = {{0, 7}, {0, -1}, {1, 61}, {1, -1}, {2, 8}, {2, -1}, {3, 0}, {-1, 0}, {1, Integer.MAX_VALUE}};
        for (int[] pair : wrong) {
            Check.argument("setting " + pair[0] + " " + pair[1], () -> x.setting(0, pair[0], pair[1]));
        }
        Check.argument("end 2", () -> x.setting(2, 0, 0));
        Check.argument("end -1", () -> x.setting(-1, 0, 0));
        Check.is("nothing was sent", 0, x.end(1, 1));
    }

    private static void noRoomOnTheWire() {
        Rig rig = new Rig().open(1).pings(1, 47);
        String before = rig.all();
        Check.state("235 + 6", () -> rig.x.setting(0, 1, 60));
        Check.is("what is changed", "", State.difference(before, rig.all()));
        rig.x.come(1, 1);
        Check.is("234 + 6", 16, rig.x.setting(0, 1, 60));
        rig.errorOfBytes(0, 99);
        Check.state("SHUT", () -> rig.x.setting(0, 1, 16));
        Check.argument("the number before SHUT", () -> rig.x.setting(0, 1, 61));
    }

    private static void heardOutOfRange() {
        int[][] wrong = {{0, 7}, {1, 61}, {2, 8}, {3, 0}, {255, 0}, {0, 255}};
        for (int[] pair : wrong) {
            Rig rig = new Rig();
            Check.is("heard " + pair[0] + " " + pair[1], Rig.PROTOCOL, rig.errorOf(1, Rig.SETTINGS, 0, 0, pair));
            Check.is("not taken", "3 16 2", rig.x.end(1, 8) + " " + rig.x.end(1, 9) + " " + rig.x.end(1, 10));
            Check.is("AWAY alone, no answer", Rig.bytes(2, 7, 0, 0, 0, 1), rig.wireText(0));
        }
        int[][] right = {{0, 6}, {1, 60}, {2, 7}, {0, 0}, {1, 0}, {2, 0}};
        for (int[] pair : right) {
            Rig rig = new Rig();
            Check.is("heard " + pair[0] + " " + pair[1], 0, rig.errorOf(0, Rig.SETTINGS, 254, 0, pair));
            Check.is("taken", pair[1], rig.x.end(0, 8 + pair[0]));
        }
    }

    private static void noRoomForTheAnswer() {
        Rig rig = new Rig().open(1).pings(0, 48);
        rig.x.come(0, 3);
        rig.x.setting(0, 1, 20);
        Check.error("237 + 4", () -> rig.x.come(1, 60));
        Check.is("SIZE", Rig.SIZE, rig.x.end(1, 0));
        Check.is("it was taken", 20, rig.x.end(1, 9));
        Check.is("ROOM", 20, rig.x.stream(1, 1, 1));
        Check.is("no AWAY", 237, rig.x.end(0, 1));
        Rig other = new Rig().pings(0, 48);
        other.x.come(0, 4);
        other.x.setting(0, 1, 20);
        Check.is("236 + 4", 1, other.x.come(1, 60));
        Check.is("a full WIRE", 240, other.x.end(0, 1));
    }
}
