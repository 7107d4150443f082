/** The EXCEPTIONS in their order, and that a call with one changes nothing, but come as told. */
final class ExceptionOrderTest {
    public static void main(String[] args) {
        numbersBeforeShut();
        numbersBeforeNoRoom();
        numbersBeforeAsTold();
        numbersBeforeNothingThere();
        eachNumberAlone();
        shutBeforeNothingThere();
        nothingThereBeforeAnError();
        askingIsNotRefusedByAShutEnd();
        askingChangesNothing();
        refusedAgainAndAgain();
        Check.end("ExceptionOrderTest");
    }

    /** Each call of the end with one number out of range is refused for that. */
    private static void wrongNumbers(Rig rig, int e) {
        rig.argument("field, name", () -> rig.x.field(e, 8, 0));
        rig.argument("field, value", () -> rig.x.field(e, 0, 8));
        rig.argument("headers", () -> rig.x.headers(e, 2, false));
        rig.argument("data, stream", () -> rig.x.data(e, 0, 1, 1, false));
        rig.argument("data, n", () -> rig.x.data(e, 1, 21, 1, false));
        rig.argument("data, v", () -> rig.x.data(e, 1, 1, 256, false));
        rig.argument("window, stream", () -> rig.x.window(e, 15, 1));
        rig.argument("window, n", () -> rig.x.window(e, 1, 0));
        rig.argument("reset, stream", () -> rig.x.reset(e, 0, 1));
        rig.argument("reset, code", () -> rig.x.reset(e, 1, 256));
        rig.argument("setting, which", () -> rig.x.setting(e, 3, 0));
        rig.argument("setting, value", () -> rig.x.setting(e, 1, 61));
        rig.argument("ping", () -> rig.x.ping(e, -1));
        rig.argument("come", () -> rig.x.come(e, 0));
    }

    private static void numbersBeforeShut() {
        Check.sentence("EXCEPTIONS in this order: IllegalArgumentException, then IllegalStateException: the end "
                + "is SHUT");
        for (int end = 0; end < 2; end++) {
            wrongNumbers(new Rig().open(1).shut(end), end);
        }
    }

    private static void numbersBeforeNoRoom() {
        Check.sentence("EXCEPTIONS in this order: IllegalArgumentException, then IllegalStateException: no room "
                + "on the WIRE");
        for (int end = 0; end < 2; end++) {
            wrongNumbers(new Rig().open(1).fill(1 - end, 240), end);
        }
    }

    private static void numbersBeforeAsTold() {
        Check.sentence("EXCEPTIONS in this order: IllegalArgumentException, then IllegalStateException: as told");
        for (int end = 0; end < 2; end++) {
            wrongNumbers(new Rig(), end);
        }
        Rig rig = new Rig();
        rig.text(0, "abcdef");
        rig.argument("a wrong letter on six", () -> rig.x.letter(0, 96));
        rig.argument("a wrong value of an empty name", () -> rig.x.field(0, 1, 8));
        rig.list(0, "a=", "b=", "c=", "d=", "e=");
        rig.argument("a wrong name on five", () -> rig.x.field(0, -1, 0));
    }

    private static void numbersBeforeNothingThere() {
        Check.sentence("EXCEPTIONS in this order: IllegalArgumentException before NoSuchElementException");
        Rig rig = new Rig();
        rig.argument("come", () -> rig.x.come(0, 61));
        rig.argument("alter, bits", () -> rig.x.alter(0, 0, 256));
        rig.argument("alter, end", () -> rig.x.alter(2, 0, 0));
        rig.argument("heard, stream", () -> rig.x.heard(0, 0, 0, false, 0));
        rig.argument("heard, end", () -> rig.x.heard(2, 1, 0, false, 0));
    }

    private static void eachNumberAlone() {
        Check.sentence("IllegalArgumentException: numbers out of range, where all else would do");
        for (int end = 0; end < 2; end++) {
            Rig rig = new Rig().open(1);
            rig.text(0, "a");
            wrongNumbers(rig, end);
        }
    }

    private static void shutBeforeNothingThere() {
        Check.sentence("EXCEPTIONS in this order: IllegalStateException: the end is SHUT (come), before "
                + "NoSuchElementException");
        for (int end = 0; end < 2; end++) {
            int e = end;
            Rig rig = new Rig().fill(1 - end, 240);
            rig.put(end, Rig.frame(Rig.PING, 0, 0, 1));
            Check.error("the answer has no room", () -> rig.x.come(e, 60));
            Check.is("nothing is on the way", 0, rig.x.end(end, 1));
            rig.state("SHUT", () -> rig.x.come(e, 60));
        }
    }

    private static void nothingThereBeforeAnError() {
        Check.sentence("NoSuchElementException: nothing there. UnsupportedOperationException: an ERROR");
        Rig rig = new Rig();
        rig.put(1, 41);
        rig.nothing("nothing to the end 0", () -> rig.x.come(0, 60));
        Check.error("an ERROR at the end 1", () -> rig.x.come(1, 1));
        Check.is("AWAY comes without one", 1, rig.x.come(0, 60));
    }

    private static void askingIsNotRefusedByAShutEnd() {
        Check.sentence("the end is SHUT (field, headers, data, window, reset, setting, ping, come): not the "
                + "other calls");
        for (int end = 0; end < 2; end++) {
            int e = end;
            Rig rig = new Rig().open(1);
            rig.hear(end, Rig.HEADERS, 0, 1, 129);
            rig.put(end, 41, 0, 0, 0, 0);
            Check.error("SHUT", () -> rig.x.come(e, 1));
            Check.is("letter", 1, rig.x.letter(7, 'a'));
            Check.is("wipe", 1, rig.x.wipe(7));
            Check.is("alter", 3, rig.x.alter(end, 0, 3));
            Check.is("stream", 1, rig.x.stream(end, 1, 0));
            Check.is("heard", (int) 'm', rig.x.heard(end, 1, 0, false, 0));
            Check.is("end", 6, rig.x.end(end, 0));
            rig.nothing("alter, nothing there", () -> rig.x.alter(e, 4, 0));
            rig.nothing("heard, nothing there", () -> rig.x.heard(e, 1, 1, false, 0));
        }
    }

    private static void askingChangesNothing() {
        Check.sentence("stream, heard, end tell; alter with 0 leaves the byte as it is");
        FrameStreams asked = new FrameStreams();
        FrameStreams other = new FrameStreams();
        for (FrameStreams x : new FrameStreams[] {asked, other}) {
            x.letter(0, 'a');
            x.field(0, 0, 0);
            x.headers(0, 0, false);
            x.come(1, 6);
            if (x == asked) {
                askAll(x);
            }
            x.come(1, 60);
            x.field(1, 0, 0);
            if (x == asked) {
                askAll(x);
            }
            x.headers(1, 1, true);
            x.come(0, 60);
        }
        Check.is("the same", told(other), told(asked));
    }

    private static void askAll(FrameStreams x) {
        told(x);
        for (int i = 0; i < 12; i++) {
            int at = i;
            Check.thrownBy(() -> x.alter(1, at, 0));
            Check.thrownBy(() -> x.heard(1, 1, at % 6, at % 2 == 0, 0));
        }
    }

    private static String told(FrameStreams x) {
        StringBuilder all = new StringBuilder();
        for (int end = 0; end < 2; end++) {
            for (int what = 0; what <= 10; what++) {
                all.append(x.end(end, what)).append(' ');
            }
            for (int stream = 0; stream <= 5; stream += stream == 0 ? 1 : 2) {
                for (int what = 0; what <= 5; what++) {
                    all.append(x.stream(end, stream, what)).append(' ');
                }
            }
        }
        return all.toString();
    }

    private static void refusedAgainAndAgain() {
        Check.sentence("a call with one changes nothing: neither once nor many times");
        Rig rig = new Rig();
        rig.list(0, "a=b", "aaaaaa=bbbbbb", "cccccc=dddddd", "eeeeee=f");
        for (int i = 0; i < 20; i++) {
            Check.state("too long", () -> rig.x.headers(0, 0, true));
        }
        Check.is("no stream", 0, rig.x.end(0, 5));
        Check.is("no field in the table", 0, rig.x.end(0, 2));
        Check.is("the LIST", 4, rig.x.end(0, 6));
        rig.x.setting(1, 2, 7);
        rig.comeAll(0);
        rig.pings(1, 40);
        for (int i = 0; i < 20; i++) {
            Check.state("too long and no room", () -> rig.x.headers(0, 0, true));
        }
        rig.comeAll(1);
        Rig next = new Rig();
        for (int i = 0; i < 20; i++) {
            Check.state("the end 1", () -> next.x.headers(1, 0, false));
        }
        Check.is("the first stream is 1 still", 1, next.x.headers(0, 0, false));
        Check.is("then 3", 3, next.x.headers(0, 0, false));
        for (int i = 0; i < 20; i++) {
            Check.state("STREAMS", () -> next.x.headers(0, 0, false));
        }
        next.x.reset(0, 1, 0);
        Check.is("then 5", 5, next.x.headers(0, 0, false));
    }
}
