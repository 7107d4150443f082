/** The edges that the document names of ROOM and DUE: 0, below 0, 250 and above: promises 6, 7, 9, 11. */
final class EdgesOfWindowsTest {
    public static void main(String[] args) {
        firstWindows();
        dataNumbers();
        roomOfTheStream();
        roomOfTheConnection();
        roomBelowNothing();
        dueOfTheConnection();
        dueFallsInAnyState();
        dueOfTheStream();
        dueBelowNothing();
        windowNumbers();
        dueUpTo250();
        dueFromBelow();
        heardWindowNumbers();
        roomUpTo250();
        roomFromBelow();
        windowOnIdleOrClosedAbove250();
        settingsBelowNothing();
        settingsAbove250();
        settingsOfAllStreams();
        settingsOfNewStreams();
        Check.end("EdgesOfWindowsTest");
    }

    /** The stream 1 is open and has those windows of the end 1: its DUE is what the end 0 may send. */
    private static Rig wide(int connection, int stream) {
        Rig rig = new Rig().open(1);
        rig.x.setting(1, 1, 60);
        grow(rig, 0, connection);
        grow(rig, 1, stream);
        return rig;
    }

    private static void grow(Rig rig, int stream, int due) {
        while (rig.x.stream(1, stream, 2) < due) {
            rig.x.window(1, stream, Math.min(60, due - rig.x.stream(1, stream, 2)));
        }
        rig.settle();
        Check.is("DUE", due, rig.x.stream(1, stream, 2));
        Check.is("ROOM", due, rig.x.stream(0, stream, 1));
    }

    private static void firstWindows() {
        Check.sentence("24 for the connection at first; for a stream when it stops being IDLE");
        Rig rig = new Rig();
        for (int end = 0; end < 2; end++) {
            Check.is("the connection", "24 24", rig.windows(end, 0));
            Check.is("an IDLE stream", "0 0", rig.windows(end, 1));
        }
        rig.x.headers(0, 0, false);
        Check.is("opened", "16 16", rig.windows(0, 1));
        Check.is("not yet come", "0 0", rig.windows(1, 1));
        rig.comeAll(1);
        Check.is("come", "16 16", rig.windows(1, 1));
        Check.is("the connection stays", "24 24", rig.windows(0, 0));
    }

    private static void dataNumbers() {
        Check.sentence("Sends DATA of n bytes v, n 0 .. 20, v 0 .. 255");
        Rig rig = wide(84, 60);
        for (int n : new int[] {-1, 21, 40, Integer.MIN_VALUE, Integer.MAX_VALUE}) {
            rig.argument("n " + n, () -> rig.x.data(0, 1, n, 0, false));
        }
        for (int v : new int[] {-1, 256, Integer.MIN_VALUE, Integer.MAX_VALUE}) {
            rig.argument("v " + v, () -> rig.x.data(0, 1, 1, v, false));
            rig.argument("v of no bytes " + v, () -> rig.x.data(0, 1, 0, v, false));
        }
        Check.is("20 bytes 255", 40, rig.x.data(0, 1, 20, 255, false));
        Check.is("no bytes", 40, rig.x.data(0, 1, 0, 255, false));
        Check.is("one byte 0", 39, rig.x.data(0, 1, 1, 0, false));
        rig.comeAll(1);
        Check.is("came", "21 5100", rig.x.stream(1, 1, 3) + " " + rig.x.stream(1, 1, 4));
        Check.is("DUE", "39 63", rig.x.stream(1, 1, 2) + " " + rig.x.stream(1, 0, 2));
    }

    private static void roomOfTheStream() {
        Check.sentence("ROOM of it is at least n (else IllegalStateException), and falls");
        for (int room = 0; room <= 20; room++) {
            int n = room;
            Rig rig = new Rig().open(1);
            rig.x.setting(1, 1, room);
            rig.settle();
            if (n < 20) {
                rig.state("one more than " + n, () -> rig.x.data(0, 1, n + 1, 1, false));
            }
            Check.is("all of " + n, 0, rig.x.data(0, 1, n, 1, false));
            Check.is("of the connection too", 24 - n, rig.x.stream(0, 0, 1));
            rig.state("one of 0", () -> rig.x.data(0, 1, 1, 1, false));
            Check.is("none of 0", 0, rig.x.data(0, 1, 0, 1, true));
        }
    }

    private static void roomOfTheConnection() {
        Check.sentence("ROOM of the connection is at least n (else IllegalStateException), and falls");
        for (int end = 0; end < 2; end++) {
            int e = end;
            Rig rig = new Rig().open(2);
            rig.x.data(end, 1, 16, 1, false);
            rig.state("9 of 8", () -> rig.x.data(e, 3, 9, 1, false));
            Check.is("8 of 8", 8, rig.x.data(end, 3, 8, 1, false));
            rig.state("1 of 0", () -> rig.x.data(e, 3, 1, 1, false));
            Check.is("0 of 0", 8, rig.x.data(end, 3, 0, 1, false));
            Check.is("it fell", 0, rig.x.stream(end, 0, 1));
        }
    }

    /** The stream 1 has that ROOM, below 0, at the end 0, and that DUE at the end 1. */
    private static Rig below(int room) {
        Rig rig = new Rig().open(1);
        rig.x.data(0, 1, -room, 1, false);
        rig.settle();
        rig.x.setting(1, 1, 0);
        rig.settle();
        Check.is("below 0", room + " " + room, rig.x.stream(0, 1, 1) + " " + rig.x.stream(1, 1, 2));
        return rig;
    }

    private static void roomBelowNothing() {
        Check.sentence("ROOM is at least n, where it is below 0");
        for (int room : new int[] {-1, -16}) {
            Rig rig = below(room);
            rig.state("0 bytes", () -> rig.x.data(0, 1, 0, 1, false));
            rig.state("0 bytes, LAST", () -> rig.x.data(0, 1, 0, 1, true));
            rig.x.window(1, 1, -room);
            rig.settle();
            Check.is("0 of 0", 0, rig.x.data(0, 1, 0, 1, true));
        }
        Check.is("HEADERS need none", 1, below(-16).x.headers(0, 1, true));
    }

    private static void dueOfTheConnection() {
        Check.sentence("DATA: More than the connection's DUE: FLOW 3; it falls by LENGTH");
        for (int end = 0; end < 2; end++) {
            for (int length : new int[] {25, 40}) {
                Rig rig = new Rig().open(1);
                Check.is(length + " of 24", Rig.FLOW, rig.errorOf(end, Rig.DATA, 0, 1, new int[length]));
                Check.is("nothing falls", "16 16 24 24", rig.windows(end, 1) + " " + rig.windows(end, 0));
                Check.is("the state stays", Rig.OPEN, rig.x.stream(end, 1, 0));
                Check.is("nothing came", 0, rig.x.stream(end, 1, 3));
            }
        }
        Rig even = wide(24, 60);
        Check.is("24 of 24", 0, even.errorOf(1, Rig.DATA, 0, 1, new int[24]));
        Check.is("it fell", "36 0", even.x.stream(1, 1, 2) + " " + even.x.stream(1, 0, 2));
        Check.is("0 of 0", 0, even.errorOf(1, Rig.DATA, 0, 1));
        Check.is("1 of 0", Rig.FLOW, even.errorOf(1, Rig.DATA, 0, 1, 1));
    }

    private static void dueFallsInAnyState() {
        Check.sentence("DATA: the connection's DUE falls by LENGTH before HEARD, CLOSED and the stream's DUE "
                + "are looked at");
        for (int state : new int[] {Rig.HEARD, Rig.CLOSED}) {
            Rig rig = Rig.inState(1, state);
            Check.is("24 of 24", 0, rig.errorOf(1, Rig.DATA, 0, 1, new int[24]));
            Check.is("it fell", "16 0", rig.x.stream(1, 1, 2) + " " + rig.x.stream(1, 0, 2));
            Check.is("RESET 5", Rig.bytes(1, 3, 0, 1, 5), rig.wireText(0));
            Rig above = Rig.inState(1, state);
            Check.is("25 of 24", Rig.FLOW, above.errorOf(1, Rig.DATA, 0, 1, new int[25]));
            Check.is("no RESET", Rig.bytes(2, 7, 0, 0, 1, 3), above.wireText(0));
            Check.is("the state stays", state, above.x.stream(1, 1, 0));
        }
    }

    private static void dueOfTheStream() {
        Check.sentence("DATA: More than the stream's DUE: CLOSED, then RESET 3 is sent. Else that falls");
        for (int end = 0; end < 2; end++) {
            for (int last = 0; last < 2; last++) {
                Rig above = new Rig().open(1);
                Check.is("17 of 16", 0, above.errorOf(end, Rig.DATA, last, 1, new int[17]));
                Check.is("CLOSED", Rig.CLOSED, above.x.stream(end, 1, 0));
                Check.is("RESET 3", Rig.bytes(1, 3, 0, 1, 3), above.wireText(1 - end));
                Check.is("the connection's fell alone", "16 7", above.x.stream(end, 1, 2) + " " + above.x.stream(end, 0, 2));
                Check.is("nothing came", 0, above.x.stream(end, 1, 3));
                Rig even = new Rig().open(1);
                Check.is("16 of 16", 0, even.errorOf(end, Rig.DATA, last, 1, new int[16]));
                Check.is("the state", last == 1 ? Rig.HEARD : Rig.OPEN, even.x.stream(end, 1, 0));
                Check.is("both fell", "0 8", even.x.stream(end, 1, 2) + " " + even.x.stream(end, 0, 2));
                Check.is("came", 16, even.x.stream(end, 1, 3));
            }
        }
        Rig none = new Rig().open(1);
        none.hear(1, Rig.DATA, 0, 1, new int[16]);
        Check.is("0 of 0", 0, none.errorOf(1, Rig.DATA, 0, 1));
        Check.is("OPEN", Rig.OPEN, none.x.stream(1, 1, 0));
        Check.is("1 of 0", 0, none.errorOf(1, Rig.DATA, 0, 1, 1));
        Check.is("CLOSED", Rig.CLOSED, none.x.stream(1, 1, 0));
    }

    private static void dueBelowNothing() {
        Check.sentence("DATA: More than the stream's DUE, where it is below 0");
        Rig rig = below(-1);
        rig.hear(1, Rig.DATA, 0, 1);
        Check.is("0 is more than -1", Rig.CLOSED, rig.x.stream(1, 1, 0));
        Check.is("RESET 3", Rig.bytes(1, 3, 0, 1, 3), rig.wireText(0));
        Check.is("DUE stays", -1, rig.x.stream(1, 1, 2));
    }

    private static void windowNumbers() {
        Check.sentence("Sends WINDOW 1 .. 60");
        Rig rig = new Rig().open(1);
        for (int n : new int[] {0, 61, -1, Integer.MIN_VALUE, Integer.MAX_VALUE}) {
            rig.argument("for a stream " + n, () -> rig.x.window(0, 1, n));
            rig.argument("for the connection " + n, () -> rig.x.window(0, 0, n));
        }
        Check.is("1", 17, rig.x.window(0, 1, 1));
        Check.is("60", 77, rig.x.window(0, 1, 60));
        Check.is("1 for the connection", 25, rig.x.window(0, 0, 1));
        Check.is("60 for the connection", 85, rig.x.window(0, 0, 60));
        Check.is("bytes", Rig.bytes(1, 8, 0, 1, 1, 1, 8, 0, 1, 60, 1, 8, 0, 0, 1, 1, 8, 0, 0, 60), rig.wireText(1));
        rig.comeAll(1);
        Check.is("ROOM there", "77 85", rig.x.stream(1, 1, 1) + " " + rig.x.stream(1, 0, 1));
    }

    private static void dueUpTo250() {
        Check.sentence("its DUE grows; above 250: IllegalStateException");
        for (int stream = 0; stream < 2; stream++) {
            int s = stream;
            Rig rig = wide(stream == 0 ? 190 : 24, stream == 1 ? 190 : 60);
            Check.is("249", 249, rig.x.window(1, stream, 59));
            rig.state("251", () -> rig.x.window(1, s, 2));
            rig.state("309", () -> rig.x.window(1, s, 60));
            Check.is("250", 250, rig.x.window(1, stream, 1));
            rig.state("251", () -> rig.x.window(1, s, 1));
            rig.settle();
            Check.is("ROOM there", 250, rig.x.stream(0, stream, 1));
            Check.is("no ERROR", 0, rig.x.end(0, 0));
        }
        Rig once = wide(24, 190);
        Check.is("190 and 60", 250, once.x.window(1, 1, 60));
        Rig over = wide(24, 191);
        over.state("191 and 60", () -> over.x.window(1, 1, 60));
    }

    private static void dueFromBelow() {
        Check.sentence("its DUE grows, from below 0");
        Rig rig = below(-16);
        Check.is("-15", -15, rig.x.window(1, 1, 1));
        Check.is("45", 45, rig.x.window(1, 1, 60));
        rig.settle();
        Check.is("ROOM there", 45, rig.x.stream(0, 1, 1));
    }

    private static void heardWindowNumbers() {
        Check.sentence("WINDOW: 0: PROTOCOL");
        for (int stream = 0; stream < 2; stream++) {
            for (int end = 0; end < 2; end++) {
                Rig zero = new Rig().open(1);
                Check.is("0", Rig.PROTOCOL, zero.errorOf(end, Rig.WINDOW, 0, stream, 0));
                Check.is("ROOM stays", stream == 0 ? 24 : 16, zero.x.stream(end, stream, 1));
                Rig one = new Rig().open(1);
                Check.is("1", 0, one.errorOf(end, Rig.WINDOW, 0, stream, 1));
                Check.is("ROOM grows", stream == 0 ? 25 : 17, one.x.stream(end, stream, 1));
                Check.is("61, which no call sends", 0, one.errorOf(end, Rig.WINDOW, 0, stream, 61));
                Check.is("ROOM grows", stream == 0 ? 86 : 78, one.x.stream(end, stream, 1));
            }
        }
        for (int state = Rig.IDLE; state <= Rig.CLOSED; state++) {
            Check.is("0 in the state " + state, Rig.PROTOCOL, Rig.inState(1, state).errorOf(1, Rig.WINDOW, 0, 1, 0));
        }
    }

    private static void roomUpTo250() {
        Check.sentence("WINDOW: it would be above 250: FLOW, and it does not grow");
        for (int stream = 0; stream < 2; stream++) {
            int first = stream == 0 ? 24 : 16;
            for (int end = 0; end < 2; end++) {
                Rig even = new Rig().open(1);
                Check.is("250", 0, even.errorOf(end, Rig.WINDOW, 0, stream, 250 - first));
                Check.is("ROOM", 250, even.x.stream(end, stream, 1));
                Check.is("1 above", Rig.FLOW, even.errorOf(end, Rig.WINDOW, 0, stream, 1));
                Check.is("ROOM stays", 250, even.x.stream(end, stream, 1));
                Rig above = new Rig().open(1);
                Check.is("251", Rig.FLOW, above.errorOf(end, Rig.WINDOW, 0, stream, 251 - first));
                Check.is("ROOM stays", first, above.x.stream(end, stream, 1));
                Check.is("the stream too", Rig.OPEN, above.x.stream(end, 1, 0));
                Rig most = new Rig().open(1);
                Check.is("255", Rig.FLOW, most.errorOf(end, Rig.WINDOW, 0, stream, 255));
            }
        }
    }

    private static void roomFromBelow() {
        Check.sentence("WINDOW: the ROOM grows, from below 0");
        Rig rig = below(-5);
        Check.is("255", 0, rig.errorOf(0, Rig.WINDOW, 0, 1, 255));
        Check.is("ROOM", 250, rig.x.stream(0, 1, 1));
        Rig above = below(-4);
        Check.is("255", Rig.FLOW, above.errorOf(0, Rig.WINDOW, 0, 1, 255));
        Check.is("ROOM stays", -4, above.x.stream(0, 1, 1));
    }

    private static void windowOnIdleOrClosedAbove250() {
        Check.sentence("WINDOW: (IDLE: PROTOCOL; CLOSED: nothing) before 250");
        Check.is("IDLE", Rig.PROTOCOL, Rig.inState(1, Rig.IDLE).errorOf(1, Rig.WINDOW, 0, 1, 255));
        Rig closed = Rig.inState(1, Rig.CLOSED);
        Check.is("CLOSED", 0, closed.errorOf(1, Rig.WINDOW, 0, 1, 255));
        Check.is("ROOM stays", 16, closed.x.stream(1, 1, 1));
    }

    private static void settingsBelowNothing() {
        Check.sentence("WINDOW: the ROOM (and at this end the DUE) grows by the difference, also below 0");
        Rig rig = new Rig().open(1);
        rig.x.data(0, 1, 16, 1, false);
        rig.settle();
        rig.x.setting(1, 1, 15);
        Check.is("DUE here at once", -1, rig.x.stream(1, 1, 2));
        Check.is("ROOM there not yet", 0, rig.x.stream(0, 1, 1));
        rig.settle();
        Check.is("ROOM there", -1, rig.x.stream(0, 1, 1));
        rig.x.setting(1, 1, 0);
        rig.settle();
        Check.is("the lowest", "-16 -16", rig.x.stream(1, 1, 2) + " " + rig.x.stream(0, 1, 1));
        rig.x.setting(1, 1, 16);
        rig.settle();
        Check.is("up again", "0 0", rig.x.stream(1, 1, 2) + " " + rig.x.stream(0, 1, 1));
    }

    private static void settingsAbove250() {
        Check.sentence("WINDOW: the ROOM (and at this end the DUE) grows by the difference; 250 is a bound of "
                + "WINDOW frames alone");
        Rig rig = wide(24, 250);
        rig.x.setting(1, 1, 59);
        rig.x.window(1, 1, 1);
        rig.x.setting(1, 1, 60);
        Check.is("DUE", 251, rig.x.stream(1, 1, 2));
        rig.settle();
        Check.is("ROOM, and no ERROR", "251 0", rig.x.stream(0, 1, 1) + " " + rig.x.end(0, 0));
        rig.state("no WINDOW above it", () -> rig.x.window(1, 1, 1));
        Check.is("FLOW there", Rig.FLOW, rig.errorOf(0, Rig.WINDOW, 0, 1, 1));
        Check.is("it does not grow", 251, rig.x.stream(0, 1, 1));
        Rig most = wide(24, 60);
        most.x.setting(1, 1, 0);
        grow(most, 1, 250);
        most.x.setting(1, 1, 60);
        most.settle();
        Check.is("310", "310 310", most.x.stream(1, 1, 2) + " " + most.x.stream(0, 1, 1));
        Check.is("20 of it", 290, most.x.data(0, 1, 20, 1, false));
    }

    private static void settingsOfAllStreams() {
        Check.sentence("WINDOW: of all streams not IDLE");
        for (int end = 0; end < 2; end++) {
            for (int state = Rig.IDLE; state <= Rig.CLOSED; state++) {
                Rig rig = Rig.inState(end, state);
                boolean isIdle = state == Rig.IDLE;
                rig.x.setting(end, 1, 60);
                Check.is("DUE, state " + state, isIdle ? "0 0" : "16 60", rig.windows(end, 1));
                rig.x.setting(1 - end, 1, 0);
                rig.settle();
                Check.is("ROOM, state " + state, isIdle ? "0 0" : "0 60", rig.windows(end, 1));
                Check.is("not of the connection", "24 24 24 24", rig.windows(0, 0) + " " + rig.windows(1, 0));
            }
        }
        Rig all = new Rig().open(7);
        all.x.setting(1, 1, 1);
        all.settle();
        for (int stream = 1; stream <= 13; stream += 2) {
            Check.is("stream " + stream, "1 16 16 1", all.windows(0, stream) + " " + all.windows(1, stream));
        }
    }

    private static void settingsOfNewStreams() {
        Check.sentence("for a stream when it stops being IDLE: the WINDOW that the other end has told, and that "
                + "this one has told in SETTINGS");
        for (int window : new int[] {0, 60}) {
            Rig rig = new Rig();
            rig.x.setting(0, 1, 60 - window);
            rig.x.setting(1, 1, window);
            rig.x.headers(0, 0, false);
            Check.is("told, but not come", "16 " + (60 - window), rig.windows(0, 1));
            rig.settle();
            Check.is("come at the end 0", window + " " + (60 - window), rig.windows(0, 1));
            Check.is("at the end 1", 60 - window + " " + window, rig.windows(1, 1));
            rig.x.headers(0, 0, false);
            Check.is("a new one", window + " " + (60 - window), rig.windows(0, 3));
            rig.settle();
            Check.is("and there", 60 - window + " " + window, rig.windows(1, 3));
        }
        Rig refused = new Rig();
        refused.x.setting(1, 2, 0);
        refused.x.setting(1, 1, 9);
        refused.settle();
        refused.hear(1, Rig.HEADERS, 0, 1);
        Check.is("a refused one too", "16 9", refused.windows(1, 1));
    }
}
