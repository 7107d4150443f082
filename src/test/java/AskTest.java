/** Promises 12 to 15: alter, stream, heard, end. */
final class AskTest {
    public static void main(String[] args) {
        alters();
        altersWhatIsNext();
        alterIsRefused();
        tellsStreams();
        streamIsRefused();
        tellsLetters();
        heardIsRefused();
        tellsEnds();
        endIsRefused();
        Check.end("AskTest");
    }

    private static void alters() {
        Rig rig = new Rig();
        rig.x.ping(0, 170);
        Check.is("as it is", 170, rig.x.alter(1, 4, 0));
        Check.is("all bits", 85, rig.x.alter(1, 4, 255));
        Check.is("it stays so", 85, rig.x.alter(1, 4, 0));
        Check.is("one bit", 84, rig.x.alter(1, 4, 1));
        rig.comeAll(1);
        Check.is("so it comes", Rig.bytes(1, 6, 1, 0, 84), rig.wireText(0));
    }

    private static void altersWhatIsNext() {
        Rig rig = new Rig().pings(1, 40);
        Check.is("199", 39, rig.x.alter(1, 199, 0));
        for (int i = 0; i < 3; i++) {
            rig.x.come(1, 60);
        }
        rig.pings(1, 40);
        Check.is("the next one", 36, rig.x.alter(1, 4, 0));
        Check.is("the last one", 39, rig.x.alter(1, 219, 0));
        rig.x.come(1, 4);
        Check.is("in the midst of a frame", 36, rig.x.alter(1, 0, 0));
        Check.nothing("one behind", () -> rig.x.alter(1, 216, 0));
    }

    private static void alterIsRefused() {
        Rig rig = new Rig();
        Check.nothing("nothing is there", () -> rig.x.alter(0, 0, 1));
        rig.x.ping(1, 0);
        Check.is("the last byte", 1, rig.x.alter(0, 4, 1));
        Check.nothing("one behind", () -> rig.x.alter(0, 5, 1));
        Check.nothing("far behind", () -> rig.x.alter(0, Integer.MAX_VALUE, 1));
        Check.argument("before all", () -> rig.x.alter(0, -1, 1));
        Check.argument("256", () -> rig.x.alter(0, 0, 256));
        Check.argument("-1", () -> rig.x.alter(0, 0, -1));
        Check.argument("the bits before what is there", () -> rig.x.alter(0, 5, 256));
        Check.argument("end 2", () -> rig.x.alter(2, 0, 1));
        Check.argument("end -1", () -> rig.x.alter(-1, 0, 1));
    }

    private static void tellsStreams() {
        Rig rig = new Rig().open(1);
        rig.list(0, "a=b", "m=get").x.headers(0, 1, false);
        rig.x.data(0, 1, 5, 3, true);
        rig.x.window(1, 1, 30);
        rig.x.window(1, 0, 1);
        rig.settle();
        int[] here = {Rig.SENT, 41, 16, 0, 0, 0};
        int[] there = {Rig.HEARD, 16, 41, 5, 15, 2};
        int[] connection = {0, 20, 24, 0, 0, 0};
        int[] other = {0, 24, 20, 0, 0, 0};
        for (int what = 0; what <= 5; what++) {
            Check.is("here " + what, here[what], rig.x.stream(0, 1, what));
            Check.is("there " + what, there[what], rig.x.stream(1, 1, what));
            Check.is("the connection " + what, connection[what], rig.x.stream(0, 0, what));
            Check.is("its other end " + what, other[what], rig.x.stream(1, 0, what));
            Check.is("an IDLE one " + what, 0, rig.x.stream(1, 13, what));
        }
    }

    private static void streamIsRefused() {
        FrameStreams x = new FrameStreams();
        for (int stream : new int[] {-1, 2, 12, 14, 15, Integer.MAX_VALUE, Integer.MIN_VALUE}) {
            Check.argument("stream " + stream, () -> x.stream(0, stream, 0));
        }
        for (int what : new int[] {-1, 6, Integer.MAX_VALUE}) {
            Check.argument("what " + what, () -> x.stream(0, 1, what));
            Check.argument("of the connection", () -> x.stream(0, 0, what));
        }
        Check.argument("end 2", () -> x.stream(2, 1, 0));
        Check.argument("end -1", () -> x.stream(-1, 1, 0));
    }

    private static void tellsLetters() {
        Rig rig = new Rig();
        rig.list(0, "abcdef=z", "p=").x.headers(0, 0, false);
        rig.comeAll(1);
        for (int k = 0; k < 6; k++) {
            Check.is("letter " + k, 'a' + k, rig.x.heard(1, 1, 0, false, k));
        }
        Check.is("of the value", (int) 'z', rig.x.heard(1, 1, 0, true, 0));
        Check.is("of the second", (int) 'p', rig.x.heard(1, 1, 1, false, 0));
        Check.nothing("behind the name", () -> rig.x.heard(1, 1, 0, false, 6));
        Check.nothing("behind the value", () -> rig.x.heard(1, 1, 0, true, 1));
        Check.nothing("of an empty value", () -> rig.x.heard(1, 1, 1, true, 0));
        Check.nothing("behind the fields", () -> rig.x.heard(1, 1, 2, false, 0));
        Check.nothing("at the other end", () -> rig.x.heard(0, 1, 0, false, 0));
        Check.nothing("of an IDLE one", () -> rig.x.heard(1, 3, 0, false, 0));
        Check.nothing("far behind", () -> rig.x.heard(1, 1, Integer.MAX_VALUE, false, 0));
        Check.nothing("far behind", () -> rig.x.heard(1, 1, 0, false, Integer.MAX_VALUE));
        rig.x.headers(0, 1, false);
        rig.comeAll(1);
        Check.nothing("none in their place", () -> rig.x.heard(1, 1, 0, false, 0));
    }

    private static void heardIsRefused() {
        FrameStreams x = new FrameStreams();
        for (int stream : new int[] {-1, 0, 2, 14, 15}) {
            Check.argument("stream " + stream, () -> x.heard(0, stream, 0, false, 0));
        }
        Check.argument("field -1", () -> x.heard(0, 1, -1, false, 0));
        Check.argument("letter -1", () -> x.heard(0, 1, 0, false, -1));
        Check.argument("end 2", () -> x.heard(2, 1, 0, false, 0));
        Check.argument("end -1", () -> x.heard(-1, 1, 0, false, 0));
    }

    private static void tellsEnds() {
        Rig rig = new Rig();
        rig.x.setting(1, 0, 2);
        rig.x.setting(1, 1, 9);
        rig.x.setting(1, 2, 5);
        rig.settle();
        rig.list(0, "a=b", "c=d").x.headers(0, 0, false);
        rig.comeAll(1);
        rig.list(1, "e=f").x.headers(1, 1, true);
        rig.x.headers(0, 0, true);
        rig.list(0, "x=y", "x=y", "x=y");
        rig.x.ping(0, 1);
        int[] opener = {0, 9, 2, 0, 0, 2, 3, -1, 2, 9, 5};
        int[] other = {0, 9, 1, 2, 3, 1, 0, -1, 3, 16, 2};
        for (int what = 0; what <= 10; what++) {
            Check.is("the end 0, " + what, opener[what], rig.x.end(0, what));
            Check.is("the end 1, " + what, other[what], rig.x.end(1, what));
        }
    }

    private static void endIsRefused() {
        FrameStreams x = new FrameStreams();
        for (int what : new int[] {-1, 11, Integer.MAX_VALUE, Integer.MIN_VALUE}) {
            Check.argument("what " + what, () -> x.end(0, what));
        }
        Check.argument("end 2", () -> x.end(2, 0));
        Check.argument("end -1", () -> x.end(-1, 0));
    }
}
