/** Promise 1: a new object is in the state that the terms give. */
final class NewObjectTest {
    public static void main(String[] args) {
        for (int end = 0; end < 2; end++) {
            looksNew(new FrameStreams(), end);
        }
        textsAreEmpty();
        objectsAreApart();
        Check.end("NewObjectTest");
    }

    private static void looksNew(FrameStreams x, int end) {
        int[] due = {0, 0, 0, 0, 0, 0, 0, -1, 3, 16, 2};
        for (int what = 0; what < due.length; what++) {
            Check.is("end " + end + " " + what, due[what], x.end(end, what));
        }
        Check.is("ROOM of the connection", 24, x.stream(end, 0, 1));
        Check.is("DUE of the connection", 24, x.stream(end, 0, 2));
        for (int stream = 1; stream <= 13; stream += 2) {
            for (int what = 0; what <= 5; what++) {
                Check.is("stream " + stream + " " + what, 0, x.stream(end, stream, what));
            }
        }
        Check.nothing("nothing is on the way", () -> x.come(end, 1));
        Check.nothing("no byte to alter", () -> x.alter(end, 0, 0));
        Check.is("own TABLE", 3, x.setting(end, 0, 3));
        Check.is("own WINDOW", 16, x.setting(end, 1, 16));
        Check.is("own STREAMS", 2, x.setting(end, 2, 2));
    }

    private static void textsAreEmpty() {
        FrameStreams x = new FrameStreams();
        for (int text = 0; text < 8; text++) {
            Check.is("text " + text, 0, x.wipe(text));
        }
    }

    private static void objectsAreApart() {
        Rig one = new Rig();
        one.list(0, "a=b").x.setting(0, 1, 5);
        one.x.headers(0, 0, false);
        one.settle();
        looksNew(new FrameStreams(), 0);
        looksNew(new FrameStreams(), 1);
    }
}
