/** Promise 5: headers, and the blocks that are sent. */
final class HeadersTest {
    public static void main(String[] args) {
        opensStreamsInTurn();
        streamsOfTheOtherEndLimit();
        neverMoreThanSeven();
        newStreamIsRefused();
        onAStream();
        lastTakesTheState();
        wrongNumbers();
        blockOfFixedFields();
        blockOfNames();
        blockByTheTable();
        blockWithALimit();
        longBlockChangesNothing();
        longestBlock();
        noRoomChangesNothing();
        refusedBlockIsForgotten();
        Check.end("HeadersTest");
    }

    private static void opensStreamsInTurn() {
        Rig rig = new Rig();
        Check.is("the first", 1, rig.x.headers(0, 0, false));
        Check.is("the second", 3, rig.x.headers(0, 0, true));
        Check.is("OPEN", Rig.OPEN, rig.x.stream(0, 1, 0));
        Check.is("SENT", Rig.SENT, rig.x.stream(0, 3, 0));
        Check.is("ROOM", 16, rig.x.stream(0, 1, 1));
        Check.is("DUE", 16, rig.x.stream(0, 1, 2));
        Check.is("bytes", Rig.bytes(0, 1, 0, 1, 0, 1, 1, 3), rig.wireText(1));
    }

    private static void streamsOfTheOtherEndLimit() {
        Rig rig = new Rig();
        rig.x.setting(0, 2, 7);
        rig.comeAll(1);
        rig.comeAll(0);
        rig.x.headers(0, 0, false);
        rig.x.headers(0, 0, true);
        Check.state("its own STREAMS do not count", () -> rig.x.headers(0, 0, false));
        rig.x.reset(0, 1, 0);
        Check.is("a CLOSED one gives way", 5, rig.x.headers(0, 0, false));
        rig.x.setting(1, 2, 3);
        Check.state("not yet known", () -> rig.x.headers(0, 0, false));
        rig.comeAll(0);
        Check.is("known", 7, rig.x.headers(0, 0, false));
        rig.x.setting(1, 2, 1);
        rig.comeAll(0);
        rig.x.reset(0, 3, 0);
        Check.state("more than as many", () -> rig.x.headers(0, 0, false));
    }

    private static void neverMoreThanSeven() {
        Rig rig = new Rig().open(7);
        rig.x.reset(0, 1, 0);
        Check.state("none is left", () -> rig.x.headers(0, 0, false));
        Check.is("six are live", 6, rig.x.end(0, 5));
        Check.is("the last one", Rig.OPEN, rig.x.stream(1, 13, 0));
    }

    private static void newStreamIsRefused() {
        Rig rig = new Rig();
        Check.state("by the end 1", () -> rig.x.headers(1, 0, false));
        rig.hear(0, Rig.AWAY, 0, 0, 0, 0);
        Check.state("AWAY has come", () -> rig.x.headers(0, 0, false));
        Rig other = new Rig().open(1);
        other.hear(0, Rig.AWAY, 0, 0, 1, 1);
        Check.state("AWAY has come", () -> other.x.headers(0, 0, false));
        Check.is("on a stream that is there", 1, other.x.headers(0, 1, false));
    }

    private static void onAStream() {
        Rig rig = new Rig();
        Check.state("IDLE", () -> rig.x.headers(0, 1, false));
        Check.state("IDLE at the end 1", () -> rig.x.headers(1, 1, false));
        rig.open(1);
        Check.is("OPEN at the end 1", 1, rig.x.headers(1, 1, false));
        Check.is("OPEN", 1, rig.x.headers(0, 1, true));
        Check.state("SENT", () -> rig.x.headers(0, 1, false));
        rig.settle();
        Check.is("HEARD", 1, rig.x.headers(1, 1, false));
        Check.is("HEARD, the last one", 1, rig.x.headers(1, 1, true));
        Check.state("CLOSED", () -> rig.x.headers(1, 1, true));
        Check.state("not the next one", () -> rig.x.headers(0, 3, false));
    }

    private static void lastTakesTheState() {
        Rig rig = new Rig().open(1);
        rig.x.headers(1, 1, true);
        Check.is("SENT at the end 1", Rig.SENT, rig.x.stream(1, 1, 0));
        rig.comeAll(0);
        Check.is("HEARD at the end 0", Rig.HEARD, rig.x.stream(0, 1, 0));
        rig.x.headers(0, 1, false);
        Check.is("HEARD still", Rig.HEARD, rig.x.stream(0, 1, 0));
        rig.x.headers(0, 1, true);
        Check.is("CLOSED", Rig.CLOSED, rig.x.stream(0, 1, 0));
        rig.comeAll(1);
        Check.is("CLOSED at the end 1", Rig.CLOSED, rig.x.stream(1, 1, 0));
    }

    private static void wrongNumbers() {
        Rig rig = new Rig();
        for (int stream : new int[] {-1, 2, 4, 12, 14, 15, Integer.MIN_VALUE, Integer.MAX_VALUE}) {
            Check.argument("stream " + stream, () -> rig.x.headers(0, stream, false));
        }
        Check.argument("end -1", () -> rig.x.headers(-1, 0, false));
        Check.argument("end 2", () -> rig.x.headers(2, 0, false));
        rig.errorOfBytes(0, 255);
        Check.state("a SHUT end", () -> rig.x.headers(0, 0, false));
        Check.argument("the number counts first", () -> rig.x.headers(0, 2, false));
    }

    private static void blockOfFixedFields() {
        Rig rig = new Rig();
        rig.list(0, "m=get", "m=put", "p=", "s=ok", "s=no").x.headers(0, 0, true);
        Check.is("bytes", Rig.bytes(5, 1, 1, 1, 129, 130, 131, 132, 133), rig.wireText(1));
        Check.is("none is added", 0, rig.x.end(0, 2));
        Check.is("the LIST is empty", 0, rig.x.end(0, 6));
        rig.comeAll(1);
        Check.is("heard", "m=get m=put p= s=ok s=no", rig.fields(1, 1));
    }

    private static void blockOfNames() {
        Rig rig = new Rig();
        rig.list(0, "m=", "p=a", "s=b", "ab=", "ab=c").x.headers(0, 0, false);
        String due = Rig.bytes(16, 1, 0, 1, 65, 0, 67, 1, 97, 68, 1, 98, 64, 2, 97, 98, 0, 64 + 6, 1, 99);
        Check.is("bytes", due, rig.wireText(1));
        Check.is("the oldest one is off", 3, rig.x.end(0, 2));
        rig.comeAll(1);
        Check.is("heard", "m= p=a s=b ab= ab=c", rig.fields(1, 1));
        Check.is("the tables are alike", 3, rig.x.end(1, 3));
    }

    private static void blockByTheTable() {
        Rig rig = new Rig();
        rig.list(0, "a=b", "c=d").x.headers(0, 0, false);
        rig.comeAll(1);
        rig.list(0, "c=d", "a=b", "a=x", "a=b").x.headers(0, 1, false);
        String due = Rig.bytes(6, 1, 0, 1, 128 + 6, 128 + 7, 64 + 7, 1, 'x', 128 + 8);
        Check.is("the one added last is 6", due, rig.wireText(1));
        rig.comeAll(1);
        Check.is("heard", "c=d a=b a=x a=b", rig.fields(1, 1));
        rig.list(0, "a=c").x.headers(0, 1, false);
        Check.is("the least INDEX of a name", Rig.bytes(3, 1, 0, 1, 64 + 6, 1, 'c'), rig.wireText(1));
        rig.comeAll(1);
        Check.is("8 + 8 + 8 and the oldest one off", 3, rig.x.end(0, 2));
        Check.is("alike", 3, rig.x.end(1, 3));
        rig.list(0, "a=b").x.headers(0, 1, false);
        Check.is("a=b was taken off", Rig.bytes(3, 1, 0, 1, 64 + 6, 1, 'b'), rig.wireText(1));
        Rig other = new Rig().open(1);
        other.list(1, "a=b").x.headers(1, 1, false);
        other.comeAll(0);
        other.list(0, "a=b").x.headers(0, 1, false);
        Check.is("each direction has its own", Rig.bytes(5, 1, 0, 1, 64, 1, 'a', 1, 'b'), other.wireText(1));
    }

    private static void blockWithALimit() {
        Rig rig = new Rig().open(1);
        rig.list(0, "a=b", "c=d", "e=f").x.headers(0, 1, false);
        Check.is("three of 8", 3, rig.x.end(0, 2));
        rig.x.setting(1, 0, 2);
        rig.settle();
        Check.is("not till a block is made", 3, rig.x.end(0, 2));
        rig.list(0, "e=f", "a=b").x.headers(0, 1, false);
        String due = Rig.bytes(7, 1, 0, 1, 34, 128 + 6, 64, 1, 'a', 1, 'b');
        Check.is("the limit stands first", due, rig.wireText(1));
        Check.is("two fit", 2, rig.x.end(0, 2));
        rig.comeAll(1);
        Check.is("alike", 2, rig.x.end(1, 3));
        rig.x.headers(0, 1, false);
        Check.is("the limit is told once", Rig.bytes(0, 1, 0, 1), rig.wireText(1));
        rig.comeAll(1);
        rig.x.setting(1, 0, 6);
        rig.x.setting(1, 0, 2);
        rig.settle();
        rig.x.headers(0, 1, false);
        Check.is("the same at last", Rig.bytes(0, 1, 0, 1), rig.wireText(1));
        rig.comeAll(1);
        rig.x.setting(1, 0, 0);
        rig.settle();
        rig.list(0, "a=b", "m=get").x.headers(0, 1, true);
        Check.is("no table", Rig.bytes(7, 1, 1, 1, 32, 64, 1, 'a', 1, 'b', 129), rig.wireText(1));
        rig.comeAll(1);
        Check.is("empty", "0 0", rig.x.end(0, 2) + " " + rig.x.end(1, 3));
        Check.is("heard", "a=b m=get", rig.fields(1, 1));
    }

    private static void longBlockChangesNothing() {
        Rig rig = new Rig();
        rig.x.setting(1, 0, 6);
        rig.settle();
        rig.list(0, "a=b", "aaaaaa=bbbbbb", "bbbbbb=aaaaaa", "cccccc=z");
        String before = rig.all();
        Check.state("a block of 1 + 5 + 15 + 15 + 10", () -> rig.x.headers(0, 0, false));
        Check.is("what is changed", "", State.difference(before, rig.all()));
        rig.x.setting(1, 0, 3);
        rig.settle();
        Check.state("a block of 5 + 15 + 15 + 10", () -> rig.x.headers(0, 0, false));
        Check.is("the LIST stays", 4, rig.x.end(0, 6));
        Check.is("no stream", Rig.IDLE, rig.x.stream(0, 1, 0));
    }

    private static void longestBlock() {
        Rig rig = new Rig();
        rig.list(0, "aaaaaa=bbbbbb", "bbbbbb=aaaaaa", "c=ccccc");
        Check.is("39 bytes", 1, rig.x.headers(0, 0, false));
        Check.is("the length", 39, rig.x.alter(1, 0, 0));
        Rig even = new Rig();
        even.list(0, "aaaaaa=bbbbbb", "bbbbbb=aaaaaa", "c=cccccc");
        Check.is("40 bytes", 1, even.x.headers(0, 0, false));
        Check.is("the length", 40, even.x.alter(1, 0, 0));
        even.comeAll(1);
        Check.is("heard", "aaaaaa=bbbbbb bbbbbb=aaaaaa c=cccccc", even.fields(1, 1));
        Rig odd = new Rig();
        odd.list(0, "aaaaaa=bbbbbb", "bbbbbb=aaaaaa", "cc=cccccc");
        Check.state("41 bytes", () -> odd.x.headers(0, 0, false));
        Check.state("and again", () -> odd.x.headers(0, 0, false));
    }

    private static void refusedBlockIsForgotten() {
        Rig rig = new Rig();
        rig.x.setting(1, 0, 2);
        rig.settle();
        rig.pings(1, 48);
        rig.list(0, "a=b", "c=d");
        Check.state("no room", () -> rig.x.headers(0, 0, false));
        Check.state("and again", () -> rig.x.headers(0, 0, false));
        rig.comeAll(1);
        rig.x.headers(0, 0, false);
        String due = Rig.bytes(11, 1, 0, 1, 34, 64, 1, 'a', 1, 'b', 64, 1, 'c', 1, 'd');
        Check.is("as if made for the first time", due, rig.wireText(1));
        Check.is("16 of 20", 2, rig.x.end(0, 2));
        rig.settle();
        rig.pings(1, 48);
        rig.list(0, "e=");
        Check.state("no room", () -> rig.x.headers(0, 1, false));
        Check.is("two still", 2, rig.x.end(0, 2));
        rig.comeAll(1);
        rig.x.headers(0, 1, false);
        Check.is("8 + 7 of 20", 2, rig.x.end(0, 2));
    }

    private static void noRoomChangesNothing() {
        Rig rig = new Rig().pings(1, 47);
        rig.list(0, "a=b");
        String before = rig.all();
        Check.state("235 + 9", () -> rig.x.headers(0, 0, false));
        Check.is("what is changed", "", State.difference(before, rig.all()));
        rig.x.come(1, 4);
        Check.is("231 + 9", 1, rig.x.headers(0, 0, false));
        Check.is("a full WIRE", 240, rig.x.end(1, 1));
        Check.state("no more", () -> rig.x.headers(0, 1, false));
    }
}
