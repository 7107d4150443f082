/** Each state of a stream, and what each call and each frame does in it: promises 5 to 8, 11, 13. */
final class EdgesOfStatesTest {
    private static final int REFUSED = -1;
    private static final String RESET_5 = Rig.bytes(1, 3, 0, 1, 5);
    private static final String NOTHING = Rig.bytes();

    public static void main(String[] args) {
        streamNumbers();
        headersCall();
        dataCall();
        windowCall();
        resetCall();
        headersFrame();
        dataFrame();
        resetFrame();
        windowFrame();
        idleNumbers();
        countedStreams();
        asManyAsStreamsHere();
        asManyAsStreamsThere();
        noneLeft();
        awayHasCome();
        greaterThanAllBefore();
        closedInEachWay();
        Check.end("EdgesOfStatesTest");
    }

    private interface Sending {
        int on(Calls x, int end);
    }

    private static void streamNumbers() {
        Check.sentence("STREAMS 1, 3, .. 13; STREAMS are 0 where told");
        Rig rig = new Rig().open(7);
        for (int stream : new int[] {-13, -1, 2, 12, 14, 15, 257, Integer.MIN_VALUE, Integer.MIN_VALUE + 1, Integer.MAX_VALUE}) {
            rig.argument("headers " + stream, () -> rig.x.headers(0, stream, false));
            rig.argument("data " + stream, () -> rig.x.data(0, stream, 0, 0, false));
            rig.argument("window " + stream, () -> rig.x.window(0, stream, 1));
            rig.argument("reset " + stream, () -> rig.x.reset(0, stream, 0));
            rig.argument("stream " + stream, () -> rig.x.stream(0, stream, 0));
            rig.argument("heard " + stream, () -> rig.x.heard(0, stream, 0, false, 0));
        }
        rig.argument("data 0", () -> rig.x.data(0, 0, 0, 0, false));
        rig.argument("reset 0", () -> rig.x.reset(0, 0, 0));
        rig.argument("heard 0", () -> rig.x.heard(0, 0, 0, false, 0));
        Check.is("window 0", 25, rig.x.window(0, 0, 1));
        Check.is("stream 0", 24, rig.x.stream(0, 0, 1));
        for (int stream = 1; stream <= 13; stream += 2) {
            Check.is("headers " + stream, stream, rig.x.headers(0, stream, false));
            Check.is("data " + stream, 15, rig.x.data(0, stream, 1, 0, false));
            Check.is("window " + stream, 17, rig.x.window(0, stream, 1));
            Check.is("reset " + stream, 0, rig.x.reset(0, stream, 0));
        }
    }

    private static void headersCall() {
        Check.sentence("Else on a stream 1, 3, .. that is OPEN or HEARD (else IllegalStateException)");
        call((x, end) -> x.headers(end, 1, false), 1, REFUSED, Rig.OPEN, REFUSED, Rig.HEARD, REFUSED);
        Check.sentence("Sending LAST takes OPEN to SENT, and HEARD to CLOSED (headers)");
        call((x, end) -> x.headers(end, 1, true), 1, REFUSED, Rig.SENT, REFUSED, Rig.CLOSED, REFUSED);
    }

    private static void dataCall() {
        Check.sentence("Sends DATA on a stream OPEN or HEARD (else IllegalStateException)");
        call((x, end) -> x.data(end, 1, 3, 1, false), 13, REFUSED, Rig.OPEN, REFUSED, Rig.HEARD, REFUSED);
        call((x, end) -> x.data(end, 1, 0, 1, false), 16, REFUSED, Rig.OPEN, REFUSED, Rig.HEARD, REFUSED);
        Check.sentence("Sending LAST takes OPEN to SENT, and HEARD to CLOSED (data)");
        call((x, end) -> x.data(end, 1, 3, 1, true), 13, REFUSED, Rig.SENT, REFUSED, Rig.CLOSED, REFUSED);
        call((x, end) -> x.data(end, 1, 0, 1, true), 16, REFUSED, Rig.SENT, REFUSED, Rig.CLOSED, REFUSED);
    }

    private static void windowCall() {
        Check.sentence("Sends WINDOW for a stream that is not IDLE nor CLOSED (IllegalStateException)");
        call((x, end) -> x.window(end, 1, 4), 20, REFUSED, Rig.OPEN, Rig.SENT, Rig.HEARD, REFUSED);
    }

    private static void resetCall() {
        Check.sentence("Sends RESET of a stream neither IDLE nor CLOSED (IllegalStateException); RESET, sent, "
                + "to CLOSED");
        call((x, end) -> x.reset(end, 1, 9), 0, REFUSED, Rig.CLOSED, Rig.CLOSED, Rig.CLOSED, REFUSED);
    }

    /** What a call answers, and for each state at the end that makes it the state then, or that it is refused. */
    private static void call(Sending call, int answer, int... then) {
        for (int end = 0; end < 2; end++) {
            for (int state = Rig.IDLE; state <= Rig.CLOSED; state++) {
                int e = end;
                Rig rig = Rig.inState(end, state);
                String what = "state " + state + " at " + end;
                if (then[state] == REFUSED) {
                    rig.state(what, () -> call.on(rig.x, e));
                } else {
                    int there = rig.x.stream(1 - end, 1, 0);
                    Check.is(what, answer, call.on(rig.x, end));
                    Check.is(what + ", then", then[state], rig.x.stream(end, 1, 0));
                    Check.is(what + ", not yet at the other end", there, rig.x.stream(1 - end, 1, 0));
                }
            }
        }
    }

    private static void headersFrame() {
        Check.sentence("HEADERS: the end 1: IDLE: it opens it: OPEN. LAST counts");
        frame(1, Rig.IDLE, Rig.frame(Rig.HEADERS, 0, 1, 129), Rig.OPEN, NOTHING);
        frame(1, Rig.IDLE, Rig.frame(Rig.HEADERS, 1, 1, 129), Rig.HEARD, NOTHING);
        Check.sentence("HEADERS: At the end 0: IDLE: PROTOCOL");
        error(0, Rig.IDLE, Rig.frame(Rig.HEADERS, 0, 1, 129), Rig.PROTOCOL);
        error(0, Rig.IDLE, Rig.frame(Rig.HEADERS, 0, 13), Rig.PROTOCOL);
        for (int end = 0; end < 2; end++) {
            Check.sentence("HEADERS: OPEN or SENT: the FIELDS are the stream's HEARD FIELDS; hearing LAST takes "
                    + "OPEN to HEARD, SENT to CLOSED");
            frame(end, Rig.OPEN, Rig.frame(Rig.HEADERS, 0, 1, 129), Rig.OPEN, NOTHING);
            frame(end, Rig.OPEN, Rig.frame(Rig.HEADERS, 1, 1, 129), Rig.HEARD, NOTHING);
            frame(end, Rig.SENT, Rig.frame(Rig.HEADERS, 0, 1, 129), Rig.SENT, NOTHING);
            frame(end, Rig.SENT, Rig.frame(Rig.HEADERS, 1, 1, 129), Rig.CLOSED, NOTHING);
            Check.sentence("HEADERS: HEARD or CLOSED: the stream is CLOSED, then RESET 5 is sent");
            for (int last = 0; last < 2; last++) {
                frame(end, Rig.HEARD, Rig.frame(Rig.HEADERS, last, 1, 129), Rig.CLOSED, RESET_5);
                frame(end, Rig.CLOSED, Rig.frame(Rig.HEADERS, last, 1, 129), Rig.CLOSED, RESET_5);
            }
            fieldsStay(end);
        }
    }

    private static void fieldsStay(int end) {
        Check.sentence("HEADERS: OPEN or SENT: the FIELDS are the stream's HEARD FIELDS, in place of those before");
        Rig rig = Rig.inState(end, Rig.OPEN);
        rig.hear(end, Rig.HEADERS, 0, 1, 129, 130, 131, 132, 133);
        Check.is("five", "m=get m=put p= s=ok s=no", rig.fields(end, 1));
        rig.hear(end, Rig.HEADERS, 0, 1, 133);
        Check.is("one in their place", "s=no", rig.fields(end, 1));
        rig.hear(end, Rig.HEADERS, 0, 1);
        Check.is("none in its place", "", rig.fields(end, 1));
        rig.hear(end, Rig.HEADERS, 1, 1, 132);
        Check.is("with LAST", "s=ok", rig.fields(end, 1));
        rig.hear(end, Rig.HEADERS, 0, 1, 131);
        Check.is("not those on a HEARD one", "s=ok", rig.fields(end, 1));
        rig.hear(end, Rig.HEADERS, 0, 1);
        Check.is("nor on a CLOSED one", "s=ok", rig.fields(end, 1));
    }

    private static void dataFrame() {
        for (int end = 0; end < 2; end++) {
            Check.sentence("DATA: IDLE: PROTOCOL");
            error(end, Rig.IDLE, Rig.frame(Rig.DATA, 0, 1), Rig.PROTOCOL);
            error(end, Rig.IDLE, Rig.frame(Rig.DATA, 1, 1, 1), Rig.PROTOCOL);
            Check.sentence("DATA: what came of the stream grows by LENGTH, its SUM by the bytes; LAST counts");
            frame(end, Rig.OPEN, Rig.frame(Rig.DATA, 0, 1, 1, 2), Rig.OPEN, NOTHING);
            frame(end, Rig.OPEN, Rig.frame(Rig.DATA, 1, 1, 1, 2), Rig.HEARD, NOTHING);
            frame(end, Rig.SENT, Rig.frame(Rig.DATA, 0, 1, 1, 2), Rig.SENT, NOTHING);
            frame(end, Rig.SENT, Rig.frame(Rig.DATA, 1, 1, 1, 2), Rig.CLOSED, NOTHING);
            frame(end, Rig.OPEN, Rig.frame(Rig.DATA, 1, 1), Rig.HEARD, NOTHING);
            frame(end, Rig.SENT, Rig.frame(Rig.DATA, 1, 1), Rig.CLOSED, NOTHING);
            Check.sentence("DATA: HEARD or CLOSED: CLOSED, then RESET 5 is sent");
            for (int last = 0; last < 2; last++) {
                for (int length = 0; length < 3; length++) {
                    frame(end, Rig.HEARD, Rig.frame(Rig.DATA, last, 1, new int[length]), Rig.CLOSED, RESET_5);
                    frame(end, Rig.CLOSED, Rig.frame(Rig.DATA, last, 1, new int[length]), Rig.CLOSED, RESET_5);
                }
            }
        }
    }

    private static void resetFrame() {
        for (int end = 0; end < 2; end++) {
            Check.sentence("RESET: IDLE: PROTOCOL; else CLOSED");
            error(end, Rig.IDLE, Rig.frame(Rig.RESET, 0, 1, 0), Rig.PROTOCOL);
            error(end, Rig.IDLE, Rig.frame(Rig.RESET, 0, 13, 255), Rig.PROTOCOL);
            for (int state = Rig.OPEN; state <= Rig.CLOSED; state++) {
                frame(end, state, Rig.frame(Rig.RESET, 0, 1, 255), Rig.CLOSED, NOTHING);
                frame(end, state, Rig.frame(Rig.RESET, 0, 1, 0), Rig.CLOSED, NOTHING);
            }
        }
    }

    private static void windowFrame() {
        for (int end = 0; end < 2; end++) {
            Check.sentence("WINDOW: the ROOM grows (IDLE: PROTOCOL; CLOSED: nothing)");
            error(end, Rig.IDLE, Rig.frame(Rig.WINDOW, 0, 1, 1), Rig.PROTOCOL);
            for (int state = Rig.OPEN; state <= Rig.CLOSED; state++) {
                Rig rig = frame(end, state, Rig.frame(Rig.WINDOW, 0, 1, 7), state, NOTHING);
                Check.is("ROOM in the state " + state, state == Rig.CLOSED ? 16 : 23, rig.x.stream(end, 1, 1));
                Check.is("DUE stays", 16, rig.x.stream(end, 1, 2));
            }
        }
    }

    /** A frame on the stream 1 in that state at the end: the state then, and what is sent. */
    private static Rig frame(int end, int state, int[] frame, int then, String sent) {
        Rig rig = Rig.inState(end, state);
        String what = "state " + state + " at " + end + ", type " + frame[1];
        rig.put(end, frame);
        Check.is(what, 1, rig.x.come(end, frame.length));
        Check.is(what + ", then", then, rig.x.stream(end, 1, 0));
        Check.is(what + ", sent", sent, rig.wireText(1 - end));
        boolean isTaken = sent.equals(NOTHING);
        if (frame[1] == Rig.HEADERS) {
            Check.is(what + ", fields", isTaken ? "m=get" : "", rig.fields(end, 1));
        }
        if (frame[1] == Rig.DATA) {
            int sum = 0;
            for (int i = 4; i < frame.length; i++) {
                sum += frame[i];
            }
            Check.is(what + ", came", isTaken ? frame[0] : 0, rig.x.stream(end, 1, 3));
            Check.is(what + ", SUM", isTaken ? sum : 0, rig.x.stream(end, 1, 4));
            Check.is(what + ", DUE", isTaken ? 16 - frame[0] : 16, rig.x.stream(end, 1, 2));
            Check.is(what + ", DUE of the connection", 24 - frame[0], rig.x.stream(end, 0, 2));
        }
        return rig;
    }

    private static void error(int end, int state, int[] frame, int number) {
        Rig rig = Rig.inState(end, state);
        rig.put(end, frame);
        Check.error("type " + frame[1] + " at " + end, () -> rig.x.come(end, frame.length));
        Check.is("number", number, rig.x.end(end, 0));
        Check.is("the state stays", state, rig.x.stream(end, 1, 0));
        Check.is("AWAY alone", Rig.bytes(2, 7, 0, 0, 0, number), rig.wireText(1 - end));
        Check.is("the connection's windows stay", "24 24", rig.windows(end, 0));
    }

    private static void idleNumbers() {
        Check.sentence("0 of an IDLE one's numbers");
        Rig rig = new Rig();
        rig.x.setting(0, 1, 60);
        rig.x.setting(1, 1, 50);
        rig.x.window(0, 0, 10);
        rig.settle();
        rig.x.headers(0, 0, false);
        for (int what = 0; what <= 5; what++) {
            for (int stream = 3; stream <= 13; stream += 2) {
                Check.is("stream " + stream + " " + what, 0, rig.x.stream(0, stream, what));
            }
            Check.is("1 is IDLE at the end 1 still, " + what, 0, rig.x.stream(1, 1, what));
        }
        Check.is("1 is not at the end 0", "1 50 60", rig.x.stream(0, 1, 0) + " " + rig.windows(0, 1));
    }

    private static void countedStreams() {
        Check.sentence("streams OPEN, SENT or HEARD");
        int[] due = {0, 1, 1, 1, 0};
        for (int end = 0; end < 2; end++) {
            for (int state = Rig.IDLE; state <= Rig.CLOSED; state++) {
                Check.is("state " + state + " at " + end, due[state], Rig.inState(end, state).x.end(end, 5));
            }
        }
        Rig all = new Rig().open(7);
        Check.is("all seven", "7 7", all.x.end(0, 5) + " " + all.x.end(1, 5));
    }

    private static void asManyAsStreamsHere() {
        Check.sentence("or as many as the other end's STREAMS are OPEN, SENT or HEARD here");
        for (int state = Rig.OPEN; state <= Rig.CLOSED; state++) {
            Rig rig = Rig.inState(0, state);
            rig.x.setting(1, 2, 1);
            rig.settle();
            if (state == Rig.CLOSED) {
                Check.is("a CLOSED one does not count", 3, rig.x.headers(0, 0, false));
            } else {
                rig.state("state " + state + " counts", () -> rig.x.headers(0, 0, false));
            }
        }
        Rig none = new Rig();
        none.x.setting(1, 2, 0);
        none.settle();
        none.state("of 0 none", () -> none.x.headers(0, 0, false));
        for (int streams = 1; streams <= 7; streams++) {
            Rig rig = new Rig();
            rig.x.setting(1, 2, streams);
            rig.settle();
            for (int i = 0; i < streams; i++) {
                Check.is("one of " + streams, 2 * i + 1, rig.x.headers(0, 0, false));
            }
            rig.state("one more than " + streams, () -> rig.x.headers(0, 0, false));
        }
        Rig fewer = new Rig().open(2);
        fewer.x.setting(1, 2, 1);
        fewer.settle();
        fewer.state("more than as many", () -> fewer.x.headers(0, 0, false));
        fewer.x.reset(0, 1, 0);
        fewer.state("as many", () -> fewer.x.headers(0, 0, false));
        fewer.x.reset(0, 3, 0);
        Check.is("fewer", 5, fewer.x.headers(0, 0, false));
    }

    private static void asManyAsStreamsThere() {
        Check.sentence("but if as many as its STREAMS are OPEN, SENT or HEARD already: CLOSED, then RESET 7 is "
                + "sent");
        for (int state = Rig.OPEN; state <= Rig.CLOSED; state++) {
            for (int last = 0; last < 2; last++) {
                Rig rig = Rig.inState(1, state);
                rig.x.setting(1, 2, 1);
                rig.settle();
                rig.hear(1, Rig.HEADERS, last, 3, 129);
                boolean isFull = state != Rig.CLOSED;
                int open = last == 1 ? Rig.HEARD : Rig.OPEN;
                Check.is("beside the state " + state, isFull ? Rig.CLOSED : open, rig.x.stream(1, 3, 0));
                Check.is("what is sent", isFull ? Rig.bytes(1, 3, 0, 3, 7) : NOTHING, rig.wireText(0));
                Check.is("FIELDS of one that is OPEN alone", isFull ? "" : "m=get", rig.fields(1, 3));
            }
        }
        for (int streams = 0; streams <= 6; streams++) {
            Rig rig = new Rig();
            rig.x.setting(1, 2, streams);
            rig.settle();
            for (int i = 0; i < streams; i++) {
                rig.hear(1, Rig.HEADERS, 0, 2 * i + 1);
                Check.is("one of " + streams, Rig.OPEN, rig.x.stream(1, 2 * i + 1, 0));
            }
            rig.hear(1, Rig.HEADERS, 0, 2 * streams + 1);
            Check.is("one more than " + streams, Rig.CLOSED, rig.x.stream(1, 2 * streams + 1, 0));
            Check.is("RESET 7 alone", Rig.bytes(1, 3, 0, 2 * streams + 1, 7), rig.wireText(0));
            Check.is("live", streams, rig.x.end(1, 5));
        }
        Rig fewer = new Rig().open(2);
        fewer.x.setting(1, 2, 1);
        fewer.settle();
        fewer.hear(1, Rig.HEADERS, 0, 5);
        Check.is("more than as many", Rig.CLOSED, fewer.x.stream(1, 5, 0));
        Check.is("RESET 7", Rig.bytes(1, 3, 0, 5, 7), fewer.wireText(0));
        Check.is("those that are there stay", 2, fewer.x.end(1, 5));
        Rig seven = new Rig();
        seven.x.setting(1, 2, 7);
        seven.settle();
        for (int stream = 1; stream <= 13; stream += 2) {
            seven.hear(1, Rig.HEADERS, 0, stream);
        }
        Check.is("seven of 7", 7, seven.x.end(1, 5));
        Check.is("none is refused", 0, seven.x.end(0, 1));
    }

    private static void noneLeft() {
        Check.sentence("a new one, the next of 1, 3, .. 13 (IllegalStateException: none left)");
        Rig rig = new Rig();
        for (int stream = 1; stream <= 13; stream += 2) {
            Check.is("the next", stream, rig.x.headers(0, 0, false));
            rig.x.reset(0, stream, 0);
        }
        rig.settle();
        Check.is("all are CLOSED", 0, rig.x.end(0, 5));
        rig.state("none left", () -> rig.x.headers(0, 0, false));
    }

    private static void awayHasCome() {
        Check.sentence("IllegalStateException: AWAY has come; no new stream is opened by this end then");
        for (int said = 0; said <= 255; said += 51) {
            Rig rig = new Rig().open(1);
            rig.hear(0, Rig.AWAY, 0, 0, said, 255 - said);
            Check.is("what it said", 256 * said + 255 - said, rig.x.end(0, 7));
            rig.state("no new one", () -> rig.x.headers(0, 0, false));
            Check.is("an old one goes on", 1, rig.x.headers(0, 1, false));
            Check.is("and its DATA", 15, rig.x.data(0, 1, 1, 1, true));
        }
        Rig nought = new Rig();
        nought.hear(0, Rig.AWAY, 0, 0, 0, 0);
        nought.state("AWAY of the stream 0 and the number 0", () -> nought.x.headers(0, 0, false));
        Rig rig = new Rig();
        Check.is("none came", -1, rig.x.end(0, 7));
        Check.is("a new one", 1, rig.x.headers(0, 0, false));
    }

    private static void greaterThanAllBefore() {
        Check.sentence("IDLE: greater than all heard before (else PROTOCOL)");
        for (int first = 3; first <= 13; first += 2) {
            for (int second = 1; second < first; second += 2) {
                Rig rig = new Rig();
                Check.is("any at first", 0, rig.errorOf(1, Rig.HEADERS, 0, first));
                Check.is(second + " behind " + first, Rig.PROTOCOL, rig.errorOf(1, Rig.HEADERS, 0, second));
                Check.is("IDLE still", Rig.IDLE, rig.x.stream(1, second, 0));
                Check.is("AWAY tells the greatest", Rig.bytes(2, 7, 0, 0, first, 1), rig.wireText(0));
            }
        }
        Rig rising = new Rig();
        Check.is("1", 0, rising.errorOf(1, Rig.HEADERS, 0, 1));
        Check.is("13 behind 1", 0, rising.errorOf(1, Rig.HEADERS, 0, 13));
        Check.is("1 again, which is not IDLE", 0, rising.errorOf(1, Rig.HEADERS, 0, 1));
        Check.is("11 behind 13", Rig.PROTOCOL, rising.errorOf(1, Rig.HEADERS, 0, 11));
        Rig refused = new Rig();
        refused.x.setting(1, 2, 0);
        refused.settle();
        Check.is("5 is refused", 0, refused.errorOf(1, Rig.HEADERS, 0, 5));
        Check.is("3 behind a refused one", Rig.PROTOCOL, refused.errorOf(1, Rig.HEADERS, 0, 3));
    }

    private static void closedInEachWay() {
        Check.sentence("Sending or hearing LAST takes HEARD or SENT to CLOSED; RESET, sent or come, to CLOSED");
        for (int end = 0; end < 2; end++) {
            Rig both = Rig.inState(end, Rig.SENT);
            both.x.data(1 - end, 1, 0, 0, true);
            Check.is("sent by the other", Rig.CLOSED, both.x.stream(1 - end, 1, 0));
            Check.is("not yet here", Rig.SENT, both.x.stream(end, 1, 0));
            both.settle();
            Check.is("here", Rig.CLOSED, both.x.stream(end, 1, 0));
            Rig crossed = Rig.inState(end, Rig.OPEN);
            crossed.x.data(0, 1, 0, 0, true);
            crossed.x.data(1, 1, 0, 0, true);
            Check.is("SENT at both", "2 2", crossed.x.stream(0, 1, 0) + " " + crossed.x.stream(1, 1, 0));
            crossed.settle();
            Check.is("CLOSED at both", "4 4", crossed.x.stream(0, 1, 0) + " " + crossed.x.stream(1, 1, 0));
            for (int state = Rig.OPEN; state <= Rig.HEARD; state++) {
                Rig rig = Rig.inState(end, state);
                rig.x.reset(end, 1, 1);
                rig.settle();
                Check.is("RESET", "4 4", rig.x.stream(0, 1, 0) + " " + rig.x.stream(1, 1, 0));
            }
        }
    }
}
