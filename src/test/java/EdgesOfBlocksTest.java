import java.util.Arrays;

/** The edges that the document names of BLOCKS, as they are made and as they are heard. */
final class EdgesOfBlocksTest {
    public static void main(String[] args) {
        limitIsPutFirst();
        limitIsPutOnce();
        limitOfARefusedBlock();
        sizesOfARefusedBlock();
        longestBlock();
        longestBlockWithALimit();
        strings();
        emptyBlock();
        indexes();
        indexesOfAFullTable();
        addedNames();
        namesNotAdded();
        bytesThatAreNone();
        limitsBeforeFields();
        limitsAboveItsOwn();
        lengths();
        letters();
        emptyNames();
        endsInTheMidst();
        behindFiveFields();
        aWrongBlockOpensNothing();
        Check.end("EdgesOfBlocksTest");
    }

    /** The stream 1 is open, and the end 0 knows that TABLE of the end 1. */
    private static Rig rig(int table) {
        Rig rig = new Rig().open(1);
        rig.x.setting(1, 0, table);
        rig.settle();
        return rig;
    }

    /** The block that the end 0 makes of fields; it comes at the end 1. */
    private static String block(Rig rig, String... fields) {
        rig.list(0, fields).x.headers(0, 1, false);
        int[] wire = rig.wire(1);
        rig.comeAll(1);
        return Arrays.toString(Arrays.copyOfRange(wire, 4, wire.length));
    }

    private static void limitIsPutFirst() {
        Check.sentence("first, if ten times the other end's TABLE that is known is not the limit, that becomes "
                + "it and a byte 32 + TABLE is put");
        for (int table = 0; table <= 6; table++) {
            Rig rig = rig(table);
            String due = table == 3 ? Rig.bytes(129) : Rig.bytes(32 + table, 129);
            Check.is("TABLE " + table, due, block(rig, "m=get"));
            Check.is("heard", "m=get", rig.fields(1, 1));
            Rig empty = rig(table);
            Check.is("of an empty LIST too", table == 3 ? Rig.bytes() : Rig.bytes(32 + table), block(empty));
        }
        Rig own = new Rig().open(1);
        own.x.setting(0, 0, 6);
        own.settle();
        Check.is("not by its own TABLE", Rig.bytes(129), block(own, "m=get"));
    }

    private static void limitIsPutOnce() {
        Check.sentence("if it is not the limit of the table to send by");
        Rig rig = rig(6);
        Check.is("told", Rig.bytes(38), block(rig));
        Check.is("not again", Rig.bytes(), block(rig));
        rig.x.setting(1, 0, 0);
        rig.x.setting(1, 0, 6);
        rig.settle();
        Check.is("the last one known counts", Rig.bytes(), block(rig));
        rig.x.setting(1, 0, 3);
        rig.settle();
        Check.is("30 again", Rig.bytes(35), block(rig));
    }

    private static void limitOfARefusedBlock() {
        Check.sentence("a call with an exception changes nothing: the limit and the table of a BLOCK that is "
                + "not sent");
        Rig rig = rig(6);
        rig.list(0, "aaaaaa=bbbbbb", "cccccc=dddddd", "eeeeee=ffffff");
        rig.state("too long", () -> rig.x.headers(0, 1, false));
        rig.state("on a new stream too", () -> rig.x.headers(0, 0, false));
        Check.is("no field was added", 0, rig.x.end(0, 2));
        Rig added = rig(3);
        block(added, "a=b", "c=d", "e=f");
        added.list(0, "aaaaaa=bbbbbb", "cccccc=dddddd", "eeeeee=ffffff");
        added.state("too long, by a table with FIELDS", () -> added.x.headers(0, 1, false));
        Rig taken = rig(3);
        block(taken, "a=b", "c=d", "e=f");
        taken.list(0, "q=rs").fill(1, 240 - 9);
        taken.state("no room, by a table with FIELDS", () -> taken.x.headers(0, 1, false));
        Rig full = rig(2);
        full.list(0, "a=b").fill(1, 240 - 9);
        full.state("no room", () -> full.x.headers(0, 1, false));
        full.x.come(1, 1);
        Check.is("room", 1, full.x.headers(0, 1, false));
        Check.is("the limit stands first", 34, full.x.alter(1, 234, 0));
    }

    private static void sizesOfARefusedBlock() {
        Check.sentence("a call with an exception changes nothing: the SIZES of what is in the table");
        Rig rig = rig(3);
        block(rig, "a=", "bbbbbb=bbbbbb");
        rig.list(0, "c=ccc").fill(1, 240 - 10);
        rig.state("no room", () -> rig.x.headers(0, 1, false));
        rig.settle();
        Check.is("sent then", Rig.bytes(64, 1, 'c', 3, 'c', 'c', 'c'), block(rig));
        Check.is("7 is off for 18 + 10", 2, rig.x.end(0, 2));
        block(rig, "d=");
        Check.is("18 is off for 10 + 7", 2, rig.x.end(0, 2));
        block(rig, "e=eeeeee");
        Check.is("10 + 7 + 13", "3 3", rig.x.end(0, 2) + " " + rig.x.end(1, 3));
    }

    private static void longestBlock() {
        Check.sentence("The BLOCK's length above 40: IllegalStateException");
        String[] first = {"aaaaaa=bbbbbb", "cccccc=dddddd"};
        for (int end = 0; end < 2; end++) {
            int e = end;
            Rig even = new Rig().open(1);
            even.list(end, first).list(end, "e=ffffff");
            Check.is("40", 1, even.x.headers(end, 1, false));
            Check.is("LENGTH", 40, even.x.alter(1 - end, 0, 0));
            even.comeAll(1 - end);
            Check.is("heard", "aaaaaa=bbbbbb cccccc=dddddd e=ffffff", even.fields(1 - end, 1));
            Rig above = new Rig().open(1);
            above.list(end, first).list(end, "ee=ffffff");
            above.state("41", () -> above.x.headers(e, 1, false));
            Check.is("the LIST stays", 3, above.x.end(end, 6));
        }
        Rig opening = new Rig();
        opening.list(0, first).list(0, "ee=ffffff");
        opening.state("41 on a new stream", () -> opening.x.headers(0, 0, false));
        Rig most = new Rig();
        most.list(0, first).list(0, "eeeeee=ffffff", "gggggg=hhhhhh", "iiiiii=jjjjjj");
        most.state("75", () -> most.x.headers(0, 0, false));
        Rig again = rig(6);
        again.list(0, first).x.headers(0, 1, false);
        again.comeAll(1);
        again.list(0, first).list(0, "eeeeee=ffffff", "gggggg=hhhhhh", "m=get");
        Check.is("33 by the table", 1, again.x.headers(0, 1, false));
    }

    private static void longestBlockWithALimit() {
        Check.sentence("The BLOCK's length above 40, with the byte 32 + TABLE");
        String[] first = {"aaaaaa=bbbbbb", "cccccc=dddddd"};
        Rig even = rig(6);
        even.list(0, first).list(0, "e=fffff");
        Check.is("1 + 39", 1, even.x.headers(0, 1, false));
        Check.is("LENGTH", 40, even.x.alter(1, 0, 0));
        Rig above = rig(6);
        above.list(0, first).list(0, "e=ffffff");
        above.state("1 + 40", () -> above.x.headers(0, 1, false));
        above.x.setting(1, 0, 3);
        above.settle();
        Check.is("40 without it", 1, above.x.headers(0, 1, false));
    }

    private static void strings() {
        Check.sentence("A STRING is a byte with its length and its letters (97 .. 122)");
        Check.is("lengths 1 and 0", Rig.bytes(64, 1, 97, 0), block(rig(3), "a="));
        Check.is("lengths 1 and 6", Rig.bytes(64, 1, 122, 6, 97, 98, 99, 100, 101, 122), block(rig(3), "z=abcdez"));
        Check.is("lengths 6 and 1", Rig.bytes(64, 6, 122, 97, 98, 99, 100, 101, 1, 97), block(rig(3), "zabcde=a"));
    }

    private static void emptyBlock() {
        Check.sentence("A BLOCK is what a LIST becomes: of none, none");
        Rig rig = new Rig();
        Check.is("heard", 0, rig.errorOfBlock());
        Check.is("OPEN without FIELDS", "1 0", rig.x.stream(1, 1, 0) + " " + rig.x.stream(1, 1, 5));
    }

    /** The error that a block is at the end 1, and that nothing but AWAY is sent then. */
    private static void wrong(String what, int... block) {
        Rig rig = new Rig();
        Check.is(what, Rig.COMPRESSION, rig.errorOfBlock(block));
        Check.is(what + ", AWAY", Rig.bytes(2, 7, 0, 0, 0, 9), rig.wireText(0));
        Check.is(what + ", no stream", Rig.IDLE, rig.x.stream(1, 1, 0));
    }

    /** A block that is right at the end 1, and the fields that it gives. */
    private static void right(String fields, int... block) {
        Rig rig = new Rig();
        Check.is("no error: " + Arrays.toString(block), 0, rig.errorOfBlock(block));
        Check.is(Arrays.toString(block), fields, rig.fields(1, 1));
    }

    private static void indexes() {
        Check.sentence("128 + INDEX; wrong: an INDEX that there is none of");
        right("m=get", 129);
        right("s=no", 133);
        wrong("0", 128);
        for (int index : new int[] {6, 7, 13, 14, 64, 127}) {
            wrong("INDEX " + index, 128 + index);
        }
        right("a= a=", 64, 1, 'a', 0, 134);
        wrong("7 of one", 64, 1, 'a', 0, 135);
        wrong("6 before it is added", 134, 64, 1, 'a', 0);
    }

    private static void indexesOfAFullTable() {
        Check.sentence("wrong: an INDEX that there is none of, by a full table");
        int[] four = {38, 64, 1, 'a', 0, 64, 1, 'b', 0, 64, 1, 'c', 0, 64, 1, 'd', 0};
        for (int mark : new int[] {128, 64, 0}) {
            Rig rig = new Rig();
            rig.x.setting(1, 0, 6);
            Check.is("four", 0, rig.errorOfBlock(four));
            Check.is("eight", 0, rig.errorOfBlock(four));
            int[] last = mark == 128 ? new int[] {mark + 13} : new int[] {mark + 13, 0};
            int[] none = mark == 128 ? new int[] {mark + 14} : new int[] {mark + 14, 0};
            Check.is("13", 0, rig.errorOfBlock(last));
            Check.is("heard", "a=", rig.fields(1, 1));
            Check.is("14", Rig.COMPRESSION, rig.errorOfBlock(none));
        }
    }

    private static void addedNames() {
        Check.sentence("64 + INDEX of a FIELD with that name (0: the name as a STRING), the value as a STRING; "
                + "and the FIELD is added");
        right("a=b", 64, 1, 'a', 1, 'b');
        right("m=x", 65, 1, 'x');
        right("s=x", 69, 1, 'x');
        for (int index : new int[] {6, 15, 16, 31, 63}) {
            wrong("INDEX " + index, 64 + index, 0);
        }
        right("a= a=x", 64, 1, 'a', 0, 70, 1, 'x');
        wrong("7 of one", 64, 1, 'a', 0, 71, 0);
        Rig rig = new Rig();
        rig.errorOfBlock(64, 1, 'a', 0, 65, 0, 70, 0);
        Check.is("three are added", 3, rig.x.end(1, 3));
    }

    private static void namesNotAdded() {
        Check.sentence("0 + an INDEX below 16 (as 64 + one, but not added)");
        right("a=b", 0, 1, 'a', 1, 'b');
        right("m=x", 1, 1, 'x');
        right("s=", 5, 0);
        for (int index = 6; index <= 15; index++) {
            wrong("INDEX " + index, index, 0);
        }
        right("a= a=x", 64, 1, 'a', 0, 6, 1, 'x');
        wrong("7 of one", 64, 1, 'a', 0, 7, 0);
        wrong("6 of none added", 0, 1, 'a', 0, 6, 0);
        Rig rig = new Rig();
        rig.errorOfBlock(0, 1, 'a', 0, 1, 0, 64, 1, 'b', 0, 6, 1, 'x');
        Check.is("heard", "a= m= b= b=x", rig.fields(1, 1));
        Check.is("one is added", 1, rig.x.end(1, 3));
    }

    private static void bytesThatAreNone() {
        Check.sentence("Wrong are: other bytes");
        for (int mark = 16; mark <= 31; mark++) {
            wrong("byte " + mark, mark);
            wrong("byte " + mark + " and a STRING", mark, 0);
            wrong("byte " + mark + " and two", mark, 1, 'a', 0);
            wrong("byte " + mark + " behind a FIELD", 129, mark, 0);
        }
        for (int mark = 39; mark <= 63; mark++) {
            wrong("byte " + mark, mark);
            wrong("byte " + mark + " and a STRING", mark, 0);
            wrong("byte " + mark + " behind a FIELD", 129, mark, 0);
        }
        Rig rig = new Rig();
        rig.x.setting(1, 0, 6);
        Check.is("39, though 38 is right", Rig.COMPRESSION, rig.errorOfBlock(39));
    }

    private static void limitsBeforeFields() {
        Check.sentence("32 .. 38 only before all FIELDS, once or more");
        right("", 32);
        right("", 35);
        right("", 35, 32);
        right("m=get", 32, 33, 34, 35, 129);
        int[] forty = new int[40];
        Arrays.fill(forty, 35);
        right("", forty);
        for (int table = 0; table <= 6; table++) {
            wrong("behind an INDEX", 129, 32 + table);
            wrong("behind a FIELD that is added", 65, 0, 32 + table);
            wrong("behind one that is not", 1, 0, 32 + table);
            wrong("between two", 129, 32 + table, 129);
        }
        Rig emptied = new Rig();
        emptied.errorOfBlock(64, 1, 'a', 0);
        Check.is("down and up", 0, emptied.errorOfBlock(32, 35));
        Check.is("each is done", 0, emptied.x.end(1, 3));
        Check.is("the last one holds", 0, emptied.errorOfBlock(64, 1, 'a', 0));
        Check.is("30", 1, emptied.x.end(1, 3));
    }

    private static void limitsAboveItsOwn() {
        Check.sentence("32 + a TABLE, not above this end's own: ten times that becomes the limit");
        for (int own = 0; own <= 6; own++) {
            for (int table = 0; table <= 6; table++) {
                Rig rig = new Rig();
                rig.x.setting(1, 0, own);
                int due = table <= own ? 0 : Rig.COMPRESSION;
                Check.is(table + " of " + own, due, rig.errorOfBlock(32 + table));
            }
            Rig rig = new Rig();
            rig.x.setting(1, 0, own);
            int[] mark = {32 + own, 64, 1, 'a', 3, 'b', 'c', 'd', 64, 1, 'e', 3, 'f', 'g', 'h', 64, 1, 'i', 3, 'j', 'k', 'l'};
            rig.errorOfBlock(mark);
            rig.errorOfBlock(mark);
            rig.errorOfBlock(mark);
            Check.is("fields of 10", own, rig.x.end(1, 3));
        }
        Rig second = new Rig();
        Check.is("the second is above", Rig.COMPRESSION, second.errorOfBlock(35, 36));
        Rig kept = new Rig();
        kept.errorOfBlock(64, 1, 'a', 0);
        Check.is("above", Rig.COMPRESSION, kept.errorOfBlock(36));
        Check.is("it takes off none", 1, kept.x.end(1, 3));
    }

    private static void lengths() {
        Check.sentence("Wrong are: a length above 6");
        int[] six = {6, 'a', 'b', 'c', 'd', 'e', 'f'};
        int[] seven = {7, 'a', 'b', 'c', 'd', 'e', 'f', 'g'};
        right("abcdef=", join(new int[] {64}, six, new int[] {0}));
        right("abcdef=", join(new int[] {0}, six, new int[] {0}));
        right("m=abcdef", join(new int[] {65}, six));
        right("m=abcdef", join(new int[] {1}, six));
        right("abcdef=abcdef", join(new int[] {64}, six, six));
        wrong("a name of 7", join(new int[] {64}, seven, new int[] {0}));
        wrong("a name of 7, not added", join(new int[] {0}, seven, new int[] {0}));
        wrong("a value of 7", join(new int[] {65}, seven));
        wrong("a value of 7, not added", join(new int[] {1}, seven));
        wrong("a value of 255", 65, 255, 'a');
    }

    private static int[] join(int[]... parts) {
        int[] all = new int[0];
        for (int[] part : parts) {
            int length = all.length;
            all = Arrays.copyOf(all, length + part.length);
            System.arraycopy(part, 0, all, length, part.length);
        }
        return all;
    }

    private static void letters() {
        Check.sentence("Wrong are: a letter that is none");
        right("a=z", 64, 1, 97, 1, 122);
        right("z=a", 64, 1, 122, 1, 97);
        for (int letter : new int[] {96, 123, 0, 64, 65, 90, 97 + 128, 255}) {
            wrong("name " + letter, 64, 1, letter, 0);
            wrong("name, not added, " + letter, 0, 1, letter, 0);
            wrong("value " + letter, 65, 1, letter);
            wrong("value, not added, " + letter, 1, 1, letter);
            wrong("the last of six " + letter, 65, 6, 97, 97, 97, 97, 97, letter);
            wrong("the first of six " + letter, 65, 6, letter, 97, 97, 97, 97, 97);
        }
    }

    private static void emptyNames() {
        Check.sentence("Wrong are: an empty name");
        wrong("an empty name", 64, 0, 1, 'a');
        wrong("an empty name and value", 64, 0, 0);
        wrong("an empty name at the end", 64, 0);
        wrong("not added", 0, 0, 1, 'a');
        wrong("not added, an empty value", 0, 0, 0);
        right("a=", 64, 1, 'a', 0);
        right("a=", 0, 1, 'a', 0);
    }

    private static void endsInTheMidst() {
        Check.sentence("Wrong are: an end in the midst");
        int[] block = {64, 2, 'a', 'b', 2, 'c', 'd', 0, 1, 'e', 1, 'f', 65, 1, 'g', 129};
        for (int length = 0; length <= block.length; length++) {
            int[] part = Arrays.copyOf(block, length);
            boolean isWhole = length == 0 || length == 7 || length == 12 || length == 15 || length == 16;
            Rig rig = new Rig();
            Check.is(length + " bytes", isWhole ? 0 : Rig.COMPRESSION, rig.errorOfBlock(part));
            int added = length >= 15 ? 2 : length >= 7 ? 1 : 0;
            Check.is(length + " bytes, added", added, rig.x.end(1, 3));
        }
    }

    private static void behindFiveFields() {
        Check.sentence("Wrong are: a byte behind five FIELDS (before it is looked at)");
        right("m=get m=get m=get m=get m=get", 129, 129, 129, 129, 129);
        right("m= m= m= m= m=", 1, 0, 1, 0, 1, 0, 1, 0, 1, 0);
        right("m= m= m= m= m=", 65, 0, 65, 0, 65, 0, 65, 0, 65, 0);
        for (int mark : new int[] {129, 0, 1, 32, 35, 64, 65, 128, 255, 16}) {
            wrong("byte " + mark, 129, 129, 129, 129, 129, mark);
        }
        Rig added = new Rig();
        int[] six = {64, 1, 'a', 0, 129, 129, 129, 129, 64, 1, 'b', 0};
        Check.is("a sixth", Rig.COMPRESSION, added.errorOfBlock(six));
        Check.is("is not added", 1, added.x.end(1, 3));
        Rig limit = new Rig();
        Check.is("a limit", Rig.COMPRESSION, limit.errorOfBlock(64, 1, 'a', 0, 129, 129, 129, 129, 32));
        Check.is("takes off none", 1, limit.x.end(1, 3));
    }

    private static void aWrongBlockOpensNothing() {
        Check.sentence("COMPRESSION 9; HEADERS: the BLOCK is heard first");
        for (int state = Rig.OPEN; state <= Rig.CLOSED; state++) {
            for (int end = 0; end < 2; end++) {
                Rig rig = Rig.inState(end, state);
                Check.is("in the state " + state, Rig.COMPRESSION, rig.errorOf(end, Rig.HEADERS, 1, 1, 129, 128));
                Check.is("which stays", state, rig.x.stream(end, 1, 0));
                Check.is("no FIELDS", 0, rig.x.stream(end, 1, 5));
                int greatestHeard = end == 1 ? 1 : 0;
                Check.is("AWAY alone", Rig.bytes(2, 7, 0, 0, greatestHeard, 9), rig.wireText(1 - end));
            }
        }
        Check.is("before PROTOCOL at the end 0", Rig.COMPRESSION, new Rig().errorOf(0, Rig.HEADERS, 0, 1, 128));
        Rig lesser = new Rig();
        lesser.hear(1, Rig.HEADERS, 0, 5);
        Check.is("before PROTOCOL of a lesser one", Rig.COMPRESSION, lesser.errorOf(1, Rig.HEADERS, 0, 3, 128));
        Rig full = new Rig();
        full.x.setting(1, 2, 0);
        full.settle();
        Check.is("before it is refused", Rig.COMPRESSION, full.errorOf(1, Rig.HEADERS, 0, 1, 128));
        Check.is("IDLE still", Rig.IDLE, full.x.stream(1, 1, 0));
    }
}
