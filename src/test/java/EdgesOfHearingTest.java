/** The edges that the document names of come, of errors, and of the order of what is done with a frame. */
final class EdgesOfHearingTest {
    public static void main(String[] args) {
        comeNumbers();
        fewerThanAsked();
        noneAtAll();
        oneByOne();
        framesAreCounted();
        bytesBehindAnErrorStay();
        framesBeforeAnErrorAreDone();
        aShutEndSendsNothing();
        aShutEndHearsNothing();
        theOtherEndGoesOn();
        awayTellsTheNumber();
        awayTellsTheGreatestStream();
        whatAwaySaid();
        sizeBeforeStream();
        streamBeforeLength();
        streamBeforeBlock();
        blockBeforeStream();
        idleBeforeFlow();
        flowBeforeClosed();
        closedBeforeDue();
        rangeBeforeAnswer();
        Check.end("EdgesOfHearingTest");
    }

    private static void comeNumbers() {
        Check.sentence("The next n bytes, 1 .. 60");
        Rig rig = new Rig().pings(0, 30).pings(1, 30);
        for (int end = 0; end < 2; end++) {
            int e = end;
            for (int n : new int[] {0, 61, -1, 150, Integer.MIN_VALUE, Integer.MAX_VALUE}) {
                rig.argument("come " + n, () -> rig.x.come(e, n));
            }
            int before = rig.x.end(end, 1);
            Check.is("come 1", 0, rig.x.come(end, 1));
            Check.is("one came", before - 1, rig.x.end(end, 1));
            Check.is("come 60", 12, rig.x.come(end, 60));
            Check.is("sixty came", before - 61, rig.x.end(end, 1));
        }
        Rig empty = new Rig();
        for (int n : new int[] {0, 61}) {
            empty.argument("the number before none at all", () -> empty.x.come(0, n));
        }
    }

    private static void fewerThanAsked() {
        Check.sentence("Fewer are on the way: as many come as there are");
        for (int count = 1; count <= 12; count++) {
            Rig rig = new Rig().pings(1, count);
            Check.is("60 of " + 5 * count, count, rig.x.come(1, 60));
            Check.is("none is left", 0, rig.x.end(1, 1));
        }
        Rig more = new Rig().pings(1, 13);
        Check.is("60 of 65", 12, more.x.come(1, 60));
        Check.is("five are left", 5, more.x.end(1, 1));
        Rig part = new Rig().open(1);
        part.x.data(0, 1, 5, 1, false);
        Check.is("8 of 9", 0, part.x.come(1, 8));
        Check.is("one more than the last", 1, part.x.come(1, 2));
    }

    private static void noneAtAll() {
        Check.sentence("none at all: NoSuchElementException");
        for (int end = 0; end < 2; end++) {
            int e = end;
            Rig rig = new Rig().pings(1 - end, 1);
            rig.nothing("never any", () -> rig.x.come(e, 1));
            rig.nothing("nor 60", () -> rig.x.come(e, 60));
            rig.comeAll(1 - end);
            Check.is("the answer", 1, rig.x.come(end, 60));
            rig.nothing("all have come", () -> rig.x.come(e, 1));
        }
    }

    private static void oneByOne() {
        Check.sentence("bytes come, one by one: a FRAME in any pieces");
        for (int piece = 1; piece <= 18; piece++) {
            Rig rig = new Rig();
            rig.list(0, "ab=cd", "m=get").x.headers(0, 0, false);
            rig.x.data(0, 1, 3, 7, true);
            int whole = 0;
            while (rig.x.end(1, 1) > 0) {
                whole += rig.x.come(1, piece);
            }
            Check.is("pieces of " + piece, 2, whole);
            Check.is("heard", "ab=cd m=get", rig.fields(1, 1));
            Check.is("came", "3 3 21", rig.x.stream(1, 1, 0) + " " + rig.x.stream(1, 1, 3) + " " + rig.x.stream(1, 1, 4));
        }
    }

    private static void framesAreCounted() {
        Check.sentence("how many FRAMES were whole");
        Rig rig = new Rig().open(1);
        for (int i = 0; i < 15; i++) {
            rig.x.headers(0, 1, false);
        }
        Check.is("of three bytes none", 0, rig.x.come(1, 3));
        Check.is("of one more one", 1, rig.x.come(1, 1));
        Check.is("of 56 fourteen", 14, rig.x.come(1, 60));
        rig.put(1, Rig.frame(99, 0, 0));
        Check.is("one of a TYPE that is none too", 1, rig.x.come(1, 4));
    }

    private static void bytesBehindAnErrorStay() {
        Check.sentence("An ERROR: the bytes behind it stay on the way, UnsupportedOperationException");
        for (int end = 0; end < 2; end++) {
            for (int count = 1; count <= 12; count++) {
                int e = end;
                Rig rig = new Rig().pings(end, 12);
                rig.x.alter(end, 5 * count - 2, 1);
                Check.error("frame " + count, () -> rig.x.come(e, 60));
                Check.is("PROTOCOL", Rig.PROTOCOL, rig.x.end(end, 0));
                Check.is("behind it", 60 - 5 * count, rig.x.end(end, 1));
            }
        }
        Rig last = new Rig().pings(1, 1);
        last.x.alter(1, 3, 1);
        Check.is("not before its last byte", 0, last.x.come(1, 4));
        Check.is("not SHUT", 0, last.x.end(1, 0));
        Check.error("by its last byte", () -> last.x.come(1, 1));
    }

    private static void framesBeforeAnErrorAreDone() {
        Check.sentence("a call with one changes nothing, but come as told");
        Rig rig = new Rig();
        rig.x.headers(0, 0, false);
        rig.x.data(0, 1, 4, 9, false);
        rig.x.ping(0, 1);
        rig.x.alter(1, 4 + 8 + 3, 2);
        Check.error("the third", () -> rig.x.come(1, 60));
        Check.is("the first is done", Rig.OPEN, rig.x.stream(1, 1, 0));
        Check.is("the second is done", "4 36", rig.x.stream(1, 1, 3) + " " + rig.x.stream(1, 1, 4));
        Check.is("the third is not", Rig.bytes(2, 7, 0, 0, 1, 1), rig.wireText(0));
    }

    private static void aShutEndSendsNothing() {
        Check.sentence("nothing is sent by it any more; the end is SHUT (field, headers, data, window, reset, "
                + "setting, ping, come)");
        for (int end = 0; end < 2; end++) {
            int e = end;
            Rig rig = new Rig().open(1);
            rig.text(0, "a");
            rig.shut(end);
            rig.state("field", () -> rig.x.field(e, 0, 0));
            rig.state("headers", () -> rig.x.headers(e, 1, false));
            rig.state("headers of a new one", () -> rig.x.headers(e, 0, false));
            rig.state("data", () -> rig.x.data(e, 1, 1, 1, false));
            rig.state("window", () -> rig.x.window(e, 1, 1));
            rig.state("window of the connection", () -> rig.x.window(e, 0, 1));
            rig.state("reset", () -> rig.x.reset(e, 1, 0));
            rig.state("setting", () -> rig.x.setting(e, 1, 1));
            rig.state("ping", () -> rig.x.ping(e, 1));
            rig.state("come", () -> rig.x.come(e, 1));
        }
    }

    private static void aShutEndHearsNothing() {
        Check.sentence("nothing is heard by it any more; the others answer as ever");
        for (int end = 0; end < 2; end++) {
            int e = end;
            Rig rig = new Rig().open(1);
            rig.hear(end, Rig.HEADERS, 0, 1, 129);
            rig.put(end, 41, 1, 2, 3, 4);
            Check.error("SHUT", () -> rig.x.come(e, 60));
            rig.state("bytes are there", () -> rig.x.come(e, 60));
            Check.is("they may be altered", 254, rig.x.alter(end, 0, 255));
            rig.nothing("those that are there", () -> rig.x.alter(e, 4, 255));
            Check.is("more may be put behind them", 0, rig.x.ping(1 - end, 9));
            Check.is("they stay", 9, rig.x.end(end, 1));
            Check.is("letter", 1, rig.x.letter(0, 'a'));
            Check.is("wipe", 1, rig.x.wipe(0));
            Check.is("stream", Rig.OPEN, rig.x.stream(end, 1, 0));
            Check.is("heard", (int) 'm', rig.x.heard(end, 1, 0, false, 0));
            Check.is("end", Rig.SIZE, rig.x.end(end, 0));
        }
    }

    private static void theOtherEndGoesOn() {
        Check.sentence("the end is SHUT with that number: it alone");
        for (int end = 0; end < 2; end++) {
            Rig rig = new Rig().open(1).shut(end);
            int other = 1 - end;
            Check.is("AWAY comes", 1, rig.comeAll(other));
            Check.is("it is not SHUT", 0, rig.x.end(other, 0));
            Check.is("ping", 0, rig.x.ping(other, 1));
            Check.is("data", 15, rig.x.data(other, 1, 1, 1, false));
            Check.is("headers", 1, rig.x.headers(other, 1, true));
            Check.is("window", 25, rig.x.window(other, 0, 1));
            Check.is("setting", 3, rig.x.setting(other, 0, 6));
            Check.is("reset", 0, rig.x.reset(other, 1, 1));
        }
    }

    private static void awayTellsTheNumber() {
        Check.sentence("the end sends AWAY with the greatest stream and the number, it is SHUT with that number");
        for (int end = 0; end < 2; end++) {
            shutBy(end, Rig.PROTOCOL, Rig.PING, 0, 0);
            shutBy(end, Rig.FLOW, Rig.WINDOW, 0, 0, 255);
            int[] wrong = {128};
            shutBy(end, Rig.COMPRESSION, Rig.HEADERS, 0, 1, wrong);
            Rig size = new Rig().shut(end);
            Check.is("SIZE", Rig.bytes(2, 7, 0, 0, 0, 6), size.wireText(1 - end));
            size.comeAll(1 - end);
            Check.is("said", 6, size.x.end(1 - end, 7));
        }
    }

    private static void shutBy(int end, int number, int type, int flags, int stream, int... rest) {
        Rig rig = new Rig();
        Check.is("SHUT", number, rig.errorOf(end, type, flags, stream, rest));
        Check.is("AWAY", Rig.bytes(2, 7, 0, 0, 0, number), rig.wireText(1 - end));
        rig.comeAll(1 - end);
        Check.is("said", number, rig.x.end(1 - end, 7));
    }

    private static void awayTellsTheGreatestStream() {
        Check.sentence("with the greatest stream that it heard HEADERS of");
        for (int greatest = 1; greatest <= 13; greatest += 2) {
            Rig rig = new Rig();
            rig.hear(1, Rig.HEADERS, 0, greatest);
            rig.shut(1);
            rig.comeAll(0);
            Check.is("said", 256 * greatest + 6, rig.x.end(0, 7));
        }
        Rig lesser = new Rig().open(2);
        lesser.x.headers(0, 1, false);
        lesser.settle();
        lesser.shut(1);
        Check.is("not the last one", Rig.bytes(2, 7, 0, 0, 3, 6), lesser.wireText(0));
        Rig opener = new Rig().open(2).shut(0);
        Check.is("the end 0 heard none", Rig.bytes(2, 7, 0, 0, 0, 6), opener.wireText(1));
        Rig heard = new Rig().open(2);
        heard.x.headers(1, 3, false);
        heard.x.headers(1, 1, false);
        heard.settle();
        heard.shut(0);
        Check.is("the end 0 heard of 3", Rig.bytes(2, 7, 0, 0, 3, 6), heard.wireText(1));
        Rig data = new Rig().open(2);
        data.x.data(1, 3, 1, 1, false);
        data.settle();
        data.shut(0);
        Check.is("DATA is no HEADERS", Rig.bytes(2, 7, 0, 0, 0, 6), data.wireText(1));
        for (int state = Rig.HEARD; state <= Rig.CLOSED; state++) {
            Rig late = Rig.inState(0, state);
            late.hear(0, Rig.HEADERS, 0, 1);
            late.comeAll(1);
            late.shut(0);
            Check.is("on a stream that takes no more", Rig.bytes(2, 7, 0, 0, 1, 6), late.wireText(1));
        }
    }

    private static void whatAwaySaid() {
        Check.sentence("what AWAY said: 256 * stream + number (-1 none came)");
        for (int end = 0; end < 2; end++) {
            Rig rig = new Rig();
            Check.is("none", -1, rig.x.end(end, 7));
            rig.hear(end, Rig.AWAY, 0, 0, 0, 0);
            Check.is("0 and 0", 0, rig.x.end(end, 7));
            Check.is("not SHUT by it", 0, rig.x.end(end, 0));
            Check.is("not at the other end", -1, rig.x.end(1 - end, 7));
            Check.is("nothing is answered", 0, rig.x.end(1 - end, 1));
            rig.hear(end, Rig.AWAY, 0, 0, 255, 255);
            Check.is("255 and 255", 65535, rig.x.end(end, 7));
            rig.hear(end, Rig.AWAY, 0, 0, 1, 2);
            Check.is("the first byte is the stream", 258, rig.x.end(end, 7));
        }
    }

    private static void sizeBeforeStream() {
        Check.sentence("In this order: LENGTH above 40 before the STREAM and the LENGTH of its TYPE");
        Check.is("DATA of 0", Rig.SIZE, new Rig().errorOfBytes(1, 41, Rig.DATA, 0, 0));
        Check.is("PING of 1", Rig.SIZE, new Rig().errorOfBytes(1, 41, Rig.PING, 0, 1));
        Check.is("SETTINGS", Rig.SIZE, new Rig().errorOfBytes(1, 41, Rig.SETTINGS, 1, 0));
    }

    private static void streamBeforeLength() {
        Check.sentence("a wrong STREAM or LENGTH is PROTOCOL before the bytes are looked at");
        Check.is("WINDOW 0 of 2", Rig.PROTOCOL, new Rig().errorOf(1, Rig.WINDOW, 0, 2, 0));
        Check.is("WINDOW above 250 of 2", Rig.PROTOCOL, new Rig().errorOf(1, Rig.WINDOW, 0, 2, 255));
        Check.is("WINDOW above 250 of two bytes", Rig.PROTOCOL, new Rig().errorOf(1, Rig.WINDOW, 0, 0, 255, 255));
        Rig settings = new Rig();
        Check.is("SETTINGS of three bytes", Rig.PROTOCOL, settings.errorOf(1, Rig.SETTINGS, 0, 0, 1, 5, 5));
        Check.is("not taken", 16, settings.x.end(1, 9));
        Rig data = new Rig();
        Check.is("DATA of 0, above FLOW", Rig.PROTOCOL, data.errorOf(1, Rig.DATA, 0, 0, new int[25]));
    }

    private static void streamBeforeBlock() {
        Check.sentence("HEADERS with a STREAM that is none: before the BLOCK is heard");
        for (int stream : new int[] {0, 2, 14, 15}) {
            Rig rig = new Rig();
            Check.is("a right BLOCK", Rig.PROTOCOL, rig.errorOf(1, Rig.HEADERS, 0, stream, 64, 1, 'a', 0));
            Check.is("is not heard", 0, rig.x.end(1, 3));
            Check.is("a wrong BLOCK", Rig.PROTOCOL, new Rig().errorOf(1, Rig.HEADERS, 0, stream, 128));
        }
    }

    private static void blockBeforeStream() {
        Check.sentence("HEADERS: the BLOCK is heard first, whatever the stream is in");
        int[] block = {64, 1, 'a', 0};
        Rig idle = new Rig();
        Check.is("IDLE at the end 0", Rig.PROTOCOL, idle.errorOf(0, Rig.HEADERS, 0, 1, block));
        Check.is("heard", 1, idle.x.end(0, 3));
        Rig lesser = new Rig();
        lesser.hear(1, Rig.HEADERS, 0, 3);
        Check.is("a lesser one", Rig.PROTOCOL, lesser.errorOf(1, Rig.HEADERS, 0, 1, block));
        Check.is("heard", 1, lesser.x.end(1, 3));
        Rig full = new Rig();
        full.x.setting(1, 2, 0);
        full.settle();
        Check.is("a refused one", 0, full.errorOf(1, Rig.HEADERS, 0, 1, block));
        Check.is("heard", 1, full.x.end(1, 3));
        for (int state = Rig.OPEN; state <= Rig.CLOSED; state++) {
            Rig rig = Rig.inState(1, state);
            Check.is("state " + state, 0, rig.errorOf(1, Rig.HEADERS, 0, 1, block));
            Check.is("heard", 1, rig.x.end(1, 3));
        }
    }

    private static void idleBeforeFlow() {
        Check.sentence("DATA: IDLE: PROTOCOL. More than the connection's DUE: FLOW 3: in this order");
        Rig rig = new Rig();
        Check.is("25 of 24 on an IDLE one", Rig.PROTOCOL, rig.errorOf(1, Rig.DATA, 0, 1, new int[25]));
        Check.is("DUE stays", 24, rig.x.stream(1, 0, 2));
        Rig some = new Rig();
        Check.is("5 on an IDLE one", Rig.PROTOCOL, some.errorOf(1, Rig.DATA, 0, 1, new int[5]));
        Check.is("DUE stays", 24, some.x.stream(1, 0, 2));
    }

    private static void flowBeforeClosed() {
        Check.sentence("DATA: More than the connection's DUE: FLOW 3. HEARD or CLOSED: in this order");
        for (int state = Rig.HEARD; state <= Rig.CLOSED; state++) {
            Rig rig = Rig.inState(1, state);
            Check.is("25 of 24", Rig.FLOW, rig.errorOf(1, Rig.DATA, 0, 1, new int[25]));
            Check.is("no RESET", Rig.bytes(2, 7, 0, 0, 1, 3), rig.wireText(0));
            Check.is("the state stays", state, rig.x.stream(1, 1, 0));
        }
    }

    private static void closedBeforeDue() {
        Check.sentence("DATA: HEARD or CLOSED: RESET 5. More than the stream's DUE: RESET 3: in this order");
        for (int state = Rig.HEARD; state <= Rig.CLOSED; state++) {
            Rig rig = Rig.inState(1, state);
            Check.is("17 of 16", 0, rig.errorOf(1, Rig.DATA, 0, 1, new int[17]));
            Check.is("RESET 5", Rig.bytes(1, 3, 0, 1, 5), rig.wireText(0));
        }
    }

    private static void rangeBeforeAnswer() {
        Check.sentence("SETTINGS: out of range: PROTOCOL, also where the ANSWER would have no room");
        Rig rig = new Rig().fill(0, 240);
        Check.is("out of range", Rig.PROTOCOL, rig.errorOf(1, Rig.SETTINGS, 0, 0, 0, 7));
        Rig full = new Rig().fill(0, 240);
        Check.is("in range", Rig.SIZE, full.errorOf(1, Rig.SETTINGS, 0, 0, 0, 6));
        Check.is("taken", 6, full.x.end(1, 8));
    }
}
