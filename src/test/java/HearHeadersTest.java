/** Promise 11: HEADERS that come, and the stream that they come on. */
final class HearHeadersTest {
    public static void main(String[] args) {
        opensAStream();
        onlyGreaterStreams();
        idleAtTheEnd0();
        refusesAboveItsStreams();
        fieldsTakeThePlace();
        onEachState();
        theBlockIsHeardFirst();
        noRoomForTheReset();
        Check.end("HearHeadersTest");
    }

    private static void opensAStream() {
        Rig rig = new Rig();
        rig.hear(1, Rig.HEADERS, 0, 5, 129);
        Check.is("OPEN", Rig.OPEN, rig.x.stream(1, 5, 0));
        Check.is("ROOM and DUE", "16 16", rig.x.stream(1, 5, 1) + " " + rig.x.stream(1, 5, 2));
        Check.is("fields", "m=get", rig.fields(1, 5));
        Check.is("nothing is answered", 0, rig.x.end(0, 1));
        rig.hear(1, Rig.HEADERS, 1, 7);
        Check.is("HEARD", Rig.HEARD, rig.x.stream(1, 7, 0));
        Check.is("two are live", 2, rig.x.end(1, 5));
    }

    private static void onlyGreaterStreams() {
        Rig rig = new Rig();
        rig.hear(1, Rig.HEADERS, 0, 5);
        Check.is("3 behind 5", Rig.PROTOCOL, rig.errorOf(1, Rig.HEADERS, 0, 3, 64, 1, 'a', 0));
        Check.is("IDLE still", Rig.IDLE, rig.x.stream(1, 3, 0));
        Check.is("but the block was heard", 1, rig.x.end(1, 3));
        Rig refused = new Rig();
        refused.x.setting(1, 2, 0);
        refused.settle();
        refused.hear(1, Rig.HEADERS, 0, 5);
        Check.is("3 behind a refused 5", Rig.PROTOCOL, refused.errorOf(1, Rig.HEADERS, 0, 3));
    }

    private static void idleAtTheEnd0() {
        Rig rig = new Rig();
        Check.is("1", Rig.PROTOCOL, rig.errorOf(0, Rig.HEADERS, 0, 1));
        Check.is("a frame that is an error is not heard", Rig.bytes(2, 7, 0, 0, 0, 1), rig.wireText(1));
        Rig other = new Rig().open(1);
        Check.is("3", Rig.PROTOCOL, other.errorOf(0, Rig.HEADERS, 0, 3));
    }

    private static void refusesAboveItsStreams() {
        Rig rig = new Rig();
        rig.hear(1, Rig.HEADERS, 0, 1);
        rig.hear(1, Rig.HEADERS, 1, 3);
        rig.hear(1, Rig.HEADERS, 1, 5, 64, 1, 'a', 0, 129);
        Check.is("CLOSED", Rig.CLOSED, rig.x.stream(1, 5, 0));
        Check.is("RESET 7", Rig.bytes(1, 3, 0, 5, 7), rig.wireText(0));
        Check.is("its numbers", "16 16", rig.x.stream(1, 5, 1) + " " + rig.x.stream(1, 5, 2));
        Check.is("no fields", 0, rig.x.stream(1, 5, 5));
        Check.is("but the block was heard", 1, rig.x.end(1, 3));
        rig.hear(1, Rig.RESET, 0, 3, 0);
        rig.hear(1, Rig.HEADERS, 0, 7, 134);
        Check.is("there is place again", Rig.OPEN, rig.x.stream(1, 7, 0));
        Check.is("by the table", "a=", rig.fields(1, 7));
        rig.x.setting(1, 2, 1);
        rig.hear(1, Rig.HEADERS, 0, 9);
        Check.is("more than as many", Rig.CLOSED, rig.x.stream(1, 9, 0));
    }

    private static void fieldsTakeThePlace() {
        Rig rig = new Rig().open(1);
        rig.hear(1, Rig.HEADERS, 0, 1, 129, 130, 131);
        Check.is("three", "m=get m=put p=", rig.fields(1, 1));
        rig.hear(1, Rig.HEADERS, 0, 1, 132);
        Check.is("one in their place", "s=ok", rig.fields(1, 1));
        rig.hear(1, Rig.HEADERS, 0, 1);
        Check.is("none in its place", 0, rig.x.stream(1, 1, 5));
        rig.hear(1, Rig.HEADERS, 1, 1, 133);
        Check.is("the last ones", "s=no", rig.fields(1, 1));
        rig.x.reset(1, 1, 0);
        Check.is("they stay", "s=no", rig.fields(1, 1));
    }

    private static void onEachState() {
        Rig sent = new Rig().open(1);
        sent.x.headers(0, 1, true);
        sent.settle();
        sent.hear(0, Rig.HEADERS, 0, 1, 129);
        Check.is("SENT", Rig.SENT, sent.x.stream(0, 1, 0));
        sent.hear(0, Rig.HEADERS, 1, 1, 130);
        Check.is("SENT and LAST", Rig.CLOSED, sent.x.stream(0, 1, 0));
        Check.is("heard", "m=put", sent.fields(0, 1));
        Check.is("nothing is sent", 0, sent.x.end(1, 1));
        sent.hear(0, Rig.HEADERS, 0, 1, 129);
        Check.is("CLOSED: RESET 5", Rig.bytes(1, 3, 0, 1, 5), sent.wireText(1));
        Check.is("CLOSED: the fields stay", "m=put", sent.fields(0, 1));
        Rig heard = new Rig().open(1);
        heard.hear(1, Rig.HEADERS, 1, 1, 129);
        heard.hear(1, Rig.HEADERS, 0, 1, 130);
        Check.is("HEARD", Rig.CLOSED, heard.x.stream(1, 1, 0));
        Check.is("HEARD: RESET 5", Rig.bytes(1, 3, 0, 1, 5), heard.wireText(0));
        Check.is("HEARD: the fields stay", "m=get", heard.fields(1, 1));
        heard.comeAll(0);
        Check.is("CLOSED there too", Rig.CLOSED, heard.x.stream(0, 1, 0));
    }

    private static void theBlockIsHeardFirst() {
        Rig rig = new Rig().open(1);
        rig.x.reset(1, 1, 0);
        rig.list(0, "a=b").x.headers(0, 1, false);
        rig.comeAll(1);
        Check.is("of a CLOSED stream too", 1, rig.x.end(1, 3));
        Check.is("COMPRESSION before PROTOCOL", Rig.COMPRESSION, new Rig().errorOf(0, Rig.HEADERS, 0, 1, 128));
        Check.is("COMPRESSION of a CLOSED one", Rig.COMPRESSION, rig.errorOf(1, Rig.HEADERS, 0, 1, 128));
    }

    private static void noRoomForTheReset() {
        Rig rig = new Rig();
        rig.x.setting(1, 2, 0);
        rig.settle();
        rig.pings(0, 48);
        rig.x.come(0, 4);
        rig.put(1, Rig.frame(Rig.HEADERS, 0, 1, 64, 1, 'a', 0));
        Check.error("236 + 5", () -> rig.x.come(1, 8));
        Check.is("SIZE", Rig.SIZE, rig.x.end(1, 0));
        Check.is("CLOSED", Rig.CLOSED, rig.x.stream(1, 1, 0));
        Check.is("added", 1, rig.x.end(1, 3));
        Check.is("no AWAY", 236, rig.x.end(0, 1));
    }
}
