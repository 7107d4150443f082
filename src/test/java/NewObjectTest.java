/** Promise 1: a new object is in the state that the terms give. */
final class NewObjectTest {
    public static void main(String[] args) {
        for (int end = 0; end < 2; end++) {
            looksNew(new FrameStreams(), end);
        }
        textsAreEmpty();
        objectsAreApart();
        fiveHundredAndTwelveCalls();
        Check.end("NewObjectTest");
    }

    private static void looksNew(FrameStreams x, int end) {
        int[] due = {0, 0, 0, 0, 0, 0, 0, -1, 3, 16, 2};
        for (int what = 0; what < due.length; what++) {
            Check.is("end " + end + " " + what, due[what], x.end(end, what));
        }
        Check.is("ROOM of the connection", 24, x.stream(end, 0, 1));
        Check.is("DUE of the connection", 24, x.stream(end, 0, 2));
        for (int stream = 1; stream <= 13; stream += 2) {
            for (int what = 0; what <= 5; what++) {
                Check.is("stream " + stream + " " + what, 0, x.stream(end, stream, what));
            }
        }
        Check.nothing("nothing is on the way", () -> x.come(end, 1));
        Check.nothing("no byte to alter", () -> x.alter(end, 0, 0));
        Check.is("own TABLE", 3, x.setting(end, 0, 3));
        Check.is("own WINDOW", 16, x.setting(end, 1, 16));
        Check.is("own STREAMS", 2, x.setting(end, 2, 2));
    }

    private static void textsAreEmpty() {
        FrameStreams x = new FrameStreams();
        for (int text = 0; text < 8; text++) {
            Check.is("text " + text, 0, x.wipe(text));
        }
    }

    private static void objectsAreApart() {
        Rig one = new Rig();
        one.list(0, "a=b").x.setting(0, 1, 5);
        one.x.headers(0, 0, false);
        one.settle();
        looksNew(new FrameStreams(), 0);
        looksNew(new FrameStreams(), 1);
    }

    private static void fiveHundredAndTwelveCalls() {
        Check.sentence("An object is used for at most 512 calls after it has been made");
        FrameStreams x = new FrameStreams();
        int calls = 0;
        for (int i = 0; i < 170; i++) {
            Check.is("ping " + i, 0, x.ping(0, i));
            Check.is("it comes", 1, x.come(1, 60));
            Check.is("the answer comes", 1, x.come(0, 60));
            calls += 3;
        }
        Check.is("the 511th call", 170, x.end(0, 4));
        Check.is("the 512th call", 0, x.end(1, 4));
        Check.is("so many calls", 512, calls + 2);
        FrameStreams text = new FrameStreams();
        for (int i = 1; i <= 511; i++) {
            Check.is("call " + i, i % 7 == 0 ? 6 : i % 7, i % 7 == 0 ? text.wipe(3) : text.letter(3, 'a'));
        }
        Check.is("the 512th call", 0, text.wipe(3));
    }
}
