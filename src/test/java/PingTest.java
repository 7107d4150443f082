/** Promise 10: ping, and PING frames that come. */
final class PingTest {
    public static void main(String[] args) {
        isAnswered();
        wrongNumbers();
        noRoom();
        Check.end("PingTest");
    }

    private static void isAnswered() {
        Rig rig = new Rig();
        for (int end = 0; end < 2; end++) {
            Check.is("ping", 0, rig.x.ping(end, 255 - end));
            Check.is("bytes", Rig.bytes(1, 6, 0, 0, 255 - end), rig.wireText(1 - end));
            Check.is("it comes", 1, rig.comeAll(1 - end));
            Check.is("the answer", Rig.bytes(1, 6, 1, 0, 255 - end), rig.wireText(end));
            Check.is("not yet counted", 0, rig.x.end(end, 4));
            Check.is("it comes", 1, rig.comeAll(end));
            Check.is("counted", 1, rig.x.end(end, 4));
            Check.is("no answer to an answer", 0, rig.x.end(1 - end, 1));
        }
        rig.x.ping(0, 0);
        rig.x.setting(0, 0, 0);
        rig.settle();
        Check.is("both kinds are counted", 3, rig.x.end(0, 4));
    }

    private static void wrongNumbers() {
        FrameStreams x = new FrameStreams();
        Check.argument("-1", () -> x.ping(0, -1));
        Check.argument("256", () -> x.ping(0, 256));
        Check.argument("end -1", () -> x.ping(-1, 0));
        Check.argument("end 2", () -> x.ping(2, 0));
        Check.is("nothing was sent", 0, x.end(1, 1));
    }

    private static void noRoom() {
        Rig rig = new Rig().pings(1, 48);
        Check.state("240 + 5", () -> rig.x.ping(0, 1));
        Check.argument("the number before the state", () -> rig.x.ping(0, 256));
        Check.is("240 bytes", 240, rig.x.end(1, 1));
        rig.pings(0, 48);
        Check.error("no room for the answer", () -> rig.x.come(1, 60));
        Check.is("SIZE", Rig.SIZE, rig.x.end(1, 0));
        Check.is("the rest stays", 235, rig.x.end(1, 1));
        Check.is("no AWAY", 240, rig.x.end(0, 1));
        Check.state("SHUT", () -> rig.x.ping(1, 1));
        Check.state("SHUT, with bytes on the way", () -> rig.x.come(1, 1));
        Check.is("the other end goes on", 0, rig.x.ping(0, 1));
    }
}
