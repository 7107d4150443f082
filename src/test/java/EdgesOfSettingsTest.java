/** The edges that the document names of SETTINGS, PING and their answers: promises 9, 10, 11, 15. */
final class EdgesOfSettingsTest {
    private static final int[] FIRST = {3, 16, 2};
    private static final int[] GREATEST = {6, 60, 7};

    public static void main(String[] args) {
        firstOnes();
        ranges();
        whichOnes();
        heardRanges();
        heardWhich();
        takenAndAnswered();
        ownStreamsCountAtOnce();
        ownWindowCountsAtOnce();
        ownTableCountsAtOnce();
        knownOnesCountWhenCome();
        tableInTens();
        answersAreCounted();
        pingBytes();
        resetCodes();
        Check.end("EdgesOfSettingsTest");
    }

    private static String known(Rig rig, int end) {
        return rig.x.end(end, 8) + " " + rig.x.end(end, 9) + " " + rig.x.end(end, 10);
    }

    private static void firstOnes() {
        Check.sentence("TABLE 0 (in tens: 3 at first), WINDOW 1 (16 at first), STREAMS 2 (2 at first)");
        for (int end = 0; end < 2; end++) {
            Rig rig = new Rig();
            Check.is("known", "3 16 2", known(rig, end));
            for (int which = 0; which <= 2; which++) {
                Check.is("own " + which, FIRST[which], rig.x.setting(end, which, FIRST[which]));
            }
        }
    }

    private static void ranges() {
        Check.sentence("0 .. 6, 0 .. 60, 0 .. 7; Sends and takes a SETTING, in its range: the old one");
        for (int end = 0; end < 2; end++) {
            for (int which = 0; which <= 2; which++) {
                Rig rig = new Rig().open(1);
                int e = end;
                int w = which;
                int greatest = GREATEST[which];
                for (int value : new int[] {-1, greatest + 1, 255, 256, Integer.MIN_VALUE, Integer.MAX_VALUE}) {
                    rig.argument("setting " + which + " to " + value, () -> rig.x.setting(e, w, value));
                }
                Check.is("the greatest", FIRST[which], rig.x.setting(end, which, greatest));
                Check.is("0", greatest, rig.x.setting(end, which, 0));
                Check.is("the same", 0, rig.x.setting(end, which, 0));
                Check.is("bytes", Rig.bytes(2, 4, 0, 0, which, greatest, 2, 4, 0, 0, which, 0, 2, 4, 0, 0, which, 0),
                        rig.wireText(1 - end));
                rig.settle();
                Check.is("known", 0, rig.x.end(1 - end, 8 + which));
                Check.is("answered", 3, rig.x.end(end, 4));
            }
        }
    }

    private static void whichOnes() {
        Check.sentence("which 0 .. 2");
        Rig rig = new Rig();
        for (int which : new int[] {-1, 3, Integer.MIN_VALUE, Integer.MAX_VALUE}) {
            rig.argument("which " + which, () -> rig.x.setting(0, which, 0));
            rig.argument("which " + which + ", and a wrong value", () -> rig.x.setting(0, which, -1));
        }
    }

    private static void heardRanges() {
        Check.sentence("SETTINGS: the bytes are which one and its value, out of range: PROTOCOL; else they are "
                + "taken and ANSWERED");
        for (int end = 0; end < 2; end++) {
            for (int which = 0; which <= 2; which++) {
                for (int value : new int[] {0, GREATEST[which]}) {
                    Rig rig = new Rig();
                    Check.is(which + " to " + value, 0, rig.errorOf(end, Rig.SETTINGS, 0, 0, which, value));
                    Check.is("taken", value, rig.x.end(end, 8 + which));
                    Check.is("answered", Rig.bytes(0, 4, 1, 0), rig.wireText(1 - end));
                }
                for (int value : new int[] {GREATEST[which] + 1, 128, 255}) {
                    Rig rig = new Rig().open(1);
                    Check.is(which + " to " + value, Rig.PROTOCOL, rig.errorOf(end, Rig.SETTINGS, 0, 0, which, value));
                    Check.is("not taken", "3 16 2", known(rig, end));
                    Check.is("ROOM stays", "16 16", rig.windows(end, 1));
                    int greatestHeard = end == 1 ? 1 : 0;
                    Check.is("AWAY, no answer", Rig.bytes(2, 7, 0, 0, greatestHeard, 1), rig.wireText(1 - end));
                }
            }
        }
    }

    private static void heardWhich() {
        Check.sentence("SETTINGS: which one, out of range: PROTOCOL");
        for (int which : new int[] {3, 4, 128, 255}) {
            for (int value : new int[] {0, 255}) {
                Rig rig = new Rig();
                Check.is(which + " to " + value, Rig.PROTOCOL, rig.errorOf(1, Rig.SETTINGS, 0, 0, which, value));
                Check.is("none is taken", "3 16 2", known(rig, 1));
            }
        }
    }

    private static void takenAndAnswered() {
        Check.sentence("SETTINGS are ANSWERED, an ANSWER is not");
        Rig rig = new Rig();
        rig.x.setting(0, 2, 5);
        Check.is("it comes", 1, rig.comeAll(1));
        Check.is("an ANSWER of four bytes", Rig.bytes(0, 4, 1, 0), rig.wireText(0));
        Check.is("it comes", 1, rig.comeAll(0));
        Check.is("nothing more", 0, rig.x.end(1, 1));
        Check.is("counted", "1 0", rig.x.end(0, 4) + " " + rig.x.end(1, 4));
        Check.is("what the end 0 knows stays", "3 16 2", known(rig, 0));
        Check.is("what the end 1 knows", "3 16 5", known(rig, 1));
    }

    private static void ownStreamsCountAtOnce() {
        Check.sentence("An end's own ones count for what comes as soon as they are told (STREAMS)");
        Rig rig = new Rig();
        rig.x.headers(0, 0, false);
        rig.x.setting(1, 2, 0);
        rig.comeAll(1);
        Check.is("refused before the other end knows", Rig.CLOSED, rig.x.stream(1, 1, 0));
        Rig more = new Rig();
        more.hear(1, Rig.HEADERS, 0, 1);
        more.hear(1, Rig.HEADERS, 0, 3);
        more.x.setting(1, 2, 3);
        more.hear(1, Rig.HEADERS, 0, 5);
        Check.is("one more before the other end knows", Rig.OPEN, more.x.stream(1, 5, 0));
    }

    private static void ownWindowCountsAtOnce() {
        Check.sentence("An end's own ones count for what comes as soon as they are told (WINDOW)");
        Rig rig = new Rig().open(1);
        rig.x.data(0, 1, 16, 1, false);
        rig.x.setting(1, 1, 15);
        rig.comeAll(1);
        Check.is("16 of 15", Rig.CLOSED, rig.x.stream(1, 1, 0));
        Rig more = new Rig().open(1);
        more.x.setting(1, 1, 17);
        more.hear(1, Rig.DATA, 0, 1, new int[17]);
        Check.is("17 of 17", Rig.OPEN, more.x.stream(1, 1, 0));
    }

    private static void ownTableCountsAtOnce() {
        Check.sentence("An end's own ones count for what comes as soon as they are told (TABLE)");
        Rig more = new Rig();
        more.x.setting(1, 0, 4);
        Check.is("36", 0, more.errorOfBlock(36));
        Check.is("37", Rig.COMPRESSION, more.errorOfBlock(37));
        Rig less = new Rig();
        less.x.setting(1, 0, 2);
        Check.is("34", 0, less.errorOfBlock(34));
        Check.is("35", Rig.COMPRESSION, less.errorOfBlock(35));
        Rig none = new Rig();
        none.x.setting(1, 0, 0);
        Check.is("32", 0, none.errorOfBlock(32));
        Check.is("33", Rig.COMPRESSION, none.errorOfBlock(33));
        Rig kept = new Rig();
        Check.is("a field", 0, kept.errorOfBlock(64, 1, 'a', 0));
        kept.x.setting(1, 0, 0);
        Check.is("the limit is the BLOCK's to change", 1, kept.x.end(1, 3));
        Check.is("by the old limit", 0, kept.errorOfBlock(134, 64, 1, 'b', 0));
        Check.is("two", 2, kept.x.end(1, 3));
    }

    private static void knownOnesCountWhenCome() {
        Check.sentence("for what the other one sends as soon as they have come there");
        Rig rig = new Rig().open(1);
        rig.x.setting(1, 0, 6);
        rig.x.setting(1, 1, 20);
        rig.x.setting(1, 2, 1);
        Check.is("TABLE, not yet", 1, rig.x.headers(0, 1, false));
        Check.is("no limit is told", Rig.bytes(0, 1, 0, 1), rig.wireText(1));
        rig.state("WINDOW, not yet", () -> rig.x.data(0, 1, 17, 1, false));
        Check.is("STREAMS, not yet", 3, rig.x.headers(0, 0, false));
        rig.comeAll(0);
        rig.comeAll(1);
        rig.x.headers(0, 1, false);
        Check.is("TABLE", Rig.bytes(1, 1, 0, 1, 38), rig.wireText(1));
        Check.is("WINDOW", 0, rig.x.data(0, 1, 20, 1, false));
        rig.x.reset(0, 3, 0);
        rig.state("STREAMS", () -> rig.x.headers(0, 0, false));
    }

    private static void tableInTens() {
        Check.sentence("TABLE 0 (in tens)");
        for (int table = 0; table <= 6; table++) {
            Rig rig = new Rig().open(1);
            rig.x.setting(1, 0, table);
            rig.settle();
            for (int i = 0; i < 4; i++) {
                String one = String.valueOf((char) ('a' + 3 * i));
                String two = String.valueOf((char) ('b' + 3 * i));
                String three = String.valueOf((char) ('c' + 3 * i));
                rig.list(0, one + "=xyz", two + "=xyz", three + "=xyz").x.headers(0, 1, false);
                rig.comeAll(1);
            }
            Check.is("fields of 10 each", table + " " + table, rig.x.end(0, 2) + " " + rig.x.end(1, 3));
        }
    }

    private static void answersAreCounted() {
        Check.sentence("An ANSWER: one more is counted; an ANSWER (of PING) is counted too");
        Rig rig = new Rig();
        for (int i = 1; i <= 5; i++) {
            rig.hear(1, Rig.SETTINGS, 1, 0);
            Check.is("of SETTINGS", 2 * i - 1, rig.x.end(1, 4));
            rig.hear(1, Rig.PING, 1, 0, 255);
            Check.is("of PING", 2 * i, rig.x.end(1, 4));
        }
        Check.is("none is answered", 0, rig.x.end(0, 1));
        Check.is("none at the end 0", 0, rig.x.end(0, 4));
    }

    private static void pingBytes() {
        Check.sentence("Sends a PING with a byte 0 .. 255: 0; an ANSWER with the byte is sent");
        for (int end = 0; end < 2; end++) {
            int e = end;
            Rig rig = new Rig();
            for (int v : new int[] {-1, 256, Integer.MIN_VALUE, Integer.MAX_VALUE}) {
                rig.argument("ping " + v, () -> rig.x.ping(e, v));
            }
            for (int v : new int[] {0, 1, 128, 255}) {
                Check.is("ping " + v, 0, rig.x.ping(end, v));
                Check.is("bytes", Rig.bytes(1, 6, 0, 0, v), rig.wireText(1 - end));
                rig.comeAll(1 - end);
                Check.is("the answer", Rig.bytes(1, 6, 1, 0, v), rig.wireText(end));
                rig.comeAll(end);
            }
            Check.is("counted", 4, rig.x.end(end, 4));
        }
    }

    private static void resetCodes() {
        Check.sentence("Sends RESET, code 0 .. 255: 0");
        for (int end = 0; end < 2; end++) {
            int e = end;
            Rig rig = new Rig().open(2);
            for (int code : new int[] {-1, 256, Integer.MIN_VALUE, Integer.MAX_VALUE}) {
                rig.argument("code " + code, () -> rig.x.reset(e, 1, code));
            }
            Check.is("code 0", 0, rig.x.reset(end, 1, 0));
            Check.is("code 255", 0, rig.x.reset(end, 3, 255));
            Check.is("bytes", Rig.bytes(1, 3, 0, 1, 0, 1, 3, 0, 3, 255), rig.wireText(1 - end));
        }
    }
}
