/** The edges that the document names of what is asked: promises 12 to 15. */
final class EdgesOfAskingTest {
    public static void main(String[] args) {
        alterBits();
        alterIndex();
        alterIndexOfAFullWire();
        alterIsTheOneThatComes();
        streamWhat();
        streamOfTheConnection();
        heardFields();
        heardLetters();
        heardOfNoFields();
        endWhat();
        endOfFullOnes();
        Check.end("EdgesOfAskingTest");
    }

    private static void alterBits() {
        Check.sentence("becomes another one by xor with bits 0 .. 255: it");
        for (int end = 0; end < 2; end++) {
            int e = end;
            Rig rig = new Rig();
            rig.x.ping(1 - end, 170);
            for (int bits : new int[] {-1, 256, 511, Integer.MIN_VALUE, Integer.MAX_VALUE}) {
                rig.argument("bits " + bits, () -> rig.x.alter(e, 4, bits));
                rig.argument("bits " + bits + " where no byte is", () -> rig.x.alter(e, 5, bits));
            }
            Check.is("bits 0", 170, rig.x.alter(end, 4, 0));
            Check.is("bits 255", 85, rig.x.alter(end, 4, 255));
            Check.is("bits 255 again", 170, rig.x.alter(end, 4, 255));
            Check.is("the lowest bit", 171, rig.x.alter(end, 4, 1));
            Check.is("the highest bit", 43, rig.x.alter(end, 4, 128));
            Check.is("it alone", Rig.bytes(1, 6, 0, 0, 43), rig.wireText(end));
        }
    }

    private static void alterIndex() {
        Check.sentence("Byte i (from 0, the next one) on the way to the end. NoSuchElementException");
        for (int end = 0; end < 2; end++) {
            int e = end;
            Rig rig = new Rig();
            rig.nothing("none is there", () -> rig.x.alter(e, 0, 1));
            rig.x.ping(1 - end, 9);
            Check.is("the next one", 1, rig.x.alter(end, 0, 0));
            Check.is("the last one", 9, rig.x.alter(end, 4, 0));
            rig.nothing("one behind", () -> rig.x.alter(e, 5, 1));
            rig.nothing("a full WIRE's last", () -> rig.x.alter(e, 239, 1));
            rig.nothing("no WIRE's", () -> rig.x.alter(e, 240, 1));
            rig.nothing("far behind", () -> rig.x.alter(e, Integer.MAX_VALUE, 1));
            rig.argument("one before", () -> rig.x.alter(e, -1, 1));
            rig.argument("far before", () -> rig.x.alter(e, Integer.MIN_VALUE, 1));
            rig.nothing("none to the other end", () -> rig.x.alter(1 - e, 0, 1));
        }
    }

    private static void alterIndexOfAFullWire() {
        Check.sentence("Byte i of a full WIRE, and past the place where its bytes wrap around");
        Rig rig = new Rig().fill(1, 240);
        Check.is("the first", 1, rig.x.alter(1, 0, 0));
        Check.is("the last", 47, rig.x.alter(1, 239, 0));
        rig.nothing("one behind", () -> rig.x.alter(1, 240, 1));
        rig.x.come(1, 60);
        rig.x.come(1, 60);
        for (int i = 0; i < 24; i++) {
            rig.x.ping(0, 100 + i);
        }
        Check.is("full again", 240, rig.x.end(1, 1));
        Check.is("the next ping", 24, rig.x.alter(1, 4, 0));
        Check.is("the last of the old ones", 47, rig.x.alter(1, 119, 0));
        Check.is("the first of the new ones", 100, rig.x.alter(1, 124, 0));
        Check.is("the last", 123, rig.x.alter(1, 239, 0));
        Check.is("altered", 132, rig.x.alter(1, 239, 255));
        rig.nothing("one behind", () -> rig.x.alter(1, 240, 1));
    }

    private static void alterIsTheOneThatComes() {
        Check.sentence("Byte i (from 0, the next one), in the midst of a FRAME too");
        Rig rig = new Rig().pings(1, 2);
        rig.x.come(1, 4);
        Check.is("the byte of the first", 200, rig.x.alter(1, 0, 200));
        rig.x.come(1, 1);
        Check.is("it came so", Rig.bytes(1, 6, 1, 0, 200), rig.wireText(0));
        Check.is("the next one is another", 1, rig.x.alter(1, 0, 0));
    }

    private static void streamWhat() {
        Check.sentence("the state 0, ROOM 1, DUE 2, what came 3, SUM 4, HEARD FIELDS 5 (how many)");
        Rig rig = new Rig();
        rig.x.setting(0, 1, 30);
        rig.x.setting(1, 1, 40);
        rig.settle();
        rig.list(0, "m=get", "m=put", "p=", "s=ok", "s=no").x.headers(0, 0, false);
        rig.x.data(0, 1, 7, 255, true);
        rig.settle();
        int[] here = {Rig.SENT, 33, 30, 0, 0, 0};
        int[] there = {Rig.HEARD, 30, 33, 7, 1785, 5};
        for (int what = 0; what <= 5; what++) {
            Check.is("here " + what, here[what], rig.x.stream(0, 1, what));
            Check.is("there " + what, there[what], rig.x.stream(1, 1, what));
            Check.is("IDLE " + what, 0, rig.x.stream(1, 3, what));
        }
        for (int what : new int[] {-1, 6, Integer.MIN_VALUE, Integer.MAX_VALUE}) {
            rig.argument("what " + what, () -> rig.x.stream(0, 1, what));
            rig.argument("of an IDLE one " + what, () -> rig.x.stream(0, 13, what));
            rig.argument("of the connection " + what, () -> rig.x.stream(0, 0, what));
        }
    }

    private static void streamOfTheConnection() {
        Check.sentence("Stream 0: ROOM 1, DUE 2, else 0");
        Rig rig = new Rig().open(1);
        rig.list(0, "m=get").x.headers(0, 1, false);
        rig.x.data(0, 1, 7, 255, false);
        rig.settle();
        int[] here = {0, 17, 24, 0, 0, 0};
        int[] there = {0, 24, 17, 0, 0, 0};
        for (int what = 0; what <= 5; what++) {
            Check.is("here " + what, here[what], rig.x.stream(0, 0, what));
            Check.is("there " + what, there[what], rig.x.stream(1, 0, what));
        }
    }

    private static void heardFields() {
        Check.sentence("of the i-th HEARD FIELD of a stream at an end. NoSuchElementException");
        for (int count = 1; count <= 5; count++) {
            int fields = count;
            Rig rig = new Rig();
            for (int i = 0; i < count; i++) {
                rig.list(0, (char) ('a' + i) + "=" + (char) ('k' + i));
            }
            rig.x.headers(0, 0, false);
            rig.comeAll(1);
            for (int i = 0; i < count; i++) {
                Check.is("name " + i, 'a' + i, rig.x.heard(1, 1, i, false, 0));
                Check.is("value " + i, 'k' + i, rig.x.heard(1, 1, i, true, 0));
            }
            rig.nothing("one behind " + count, () -> rig.x.heard(1, 1, fields, false, 0));
            rig.nothing("its value", () -> rig.x.heard(1, 1, fields, true, 0));
            rig.nothing("far behind", () -> rig.x.heard(1, 1, Integer.MAX_VALUE, false, 0));
            rig.argument("one before", () -> rig.x.heard(1, 1, -1, false, 0));
            rig.argument("far before", () -> rig.x.heard(1, 1, Integer.MIN_VALUE, true, 0));
        }
    }

    private static void heardLetters() {
        Check.sentence("Letter k (from 0) of the name, or value. NoSuchElementException");
        String letters = "zyxabc";
        for (int length = 1; length <= 6; length++) {
            int k = length;
            Rig rig = new Rig();
            String name = letters.substring(0, length);
            String value = letters.substring(6 - length + 1);
            rig.list(0, name + "=" + value).x.headers(0, 0, false);
            rig.comeAll(1);
            for (int i = 0; i < length; i++) {
                Check.is("of the name", (int) name.charAt(i), rig.x.heard(1, 1, 0, false, i));
            }
            for (int i = 0; i < length - 1; i++) {
                Check.is("of the value", (int) value.charAt(i), rig.x.heard(1, 1, 0, true, i));
            }
            rig.nothing("behind the name", () -> rig.x.heard(1, 1, 0, false, k));
            rig.nothing("behind the value", () -> rig.x.heard(1, 1, 0, true, k - 1));
            rig.nothing("a seventh", () -> rig.x.heard(1, 1, 0, false, 6));
            rig.nothing("far behind", () -> rig.x.heard(1, 1, 0, false, Integer.MAX_VALUE));
            rig.argument("before the name", () -> rig.x.heard(1, 1, 0, false, -1));
            rig.argument("before the value", () -> rig.x.heard(1, 1, 0, true, -1));
        }
    }

    private static void heardOfNoFields() {
        Check.sentence("HEARD FIELD of a stream at an end: NoSuchElementException where there is none");
        Rig rig = new Rig().open(1);
        rig.nothing("of an empty LIST", () -> rig.x.heard(1, 1, 0, false, 0));
        rig.nothing("of an IDLE one", () -> rig.x.heard(1, 3, 0, false, 0));
        rig.list(0, "a=").x.headers(0, 1, false);
        rig.nothing("not yet come", () -> rig.x.heard(1, 1, 0, false, 0));
        rig.comeAll(1);
        Check.is("come", 97, rig.x.heard(1, 1, 0, false, 0));
        rig.nothing("not at the end that sent", () -> rig.x.heard(0, 1, 0, false, 0));
        rig.nothing("an empty value", () -> rig.x.heard(1, 1, 0, true, 0));
        rig.x.reset(1, 1, 0);
        Check.is("of a CLOSED one still", 97, rig.x.heard(1, 1, 0, false, 0));
    }

    private static void endWhat() {
        Check.sentence("0 SHUT by .. 7 what AWAY said; 8 + k: what it knows as the other one's SETTING k");
        Rig rig = new Rig();
        rig.x.setting(1, 0, 5);
        rig.x.setting(1, 1, 50);
        rig.x.setting(1, 2, 6);
        rig.settle();
        int[] opener = {0, 0, 0, 0, 0, 0, 0, -1, 5, 50, 6};
        int[] other = {0, 0, 0, 0, 3, 0, 0, -1, 3, 16, 2};
        for (int what = 0; what <= 10; what++) {
            Check.is("the end 0, " + what, opener[what], rig.x.end(0, what));
            Check.is("the end 1, " + what, other[what], rig.x.end(1, what));
        }
        for (int what : new int[] {-1, 11, Integer.MIN_VALUE, Integer.MAX_VALUE}) {
            rig.argument("what " + what, () -> rig.x.end(0, what));
            rig.argument("of the end 1 " + what, () -> rig.x.end(1, what));
        }
    }

    private static void endOfFullOnes() {
        Check.sentence("bytes on the way, FIELDS in the table, streams, FIELDS in the LIST: as many as there "
                + "may be");
        Rig rig = new Rig().open(7);
        rig.x.setting(1, 0, 6);
        rig.settle();
        rig.list(0, "a=", "b=", "c=", "d=").x.headers(0, 1, false);
        rig.list(0, "e=", "f=", "g=", "h=").x.headers(0, 1, false);
        rig.settle();
        rig.list(0, "m=get", "m=get", "m=get", "m=get", "m=get");
        rig.fill(1, 240);
        String opener = rig.x.end(0, 2) + " " + rig.x.end(0, 5) + " " + rig.x.end(0, 6);
        Check.is("the end 0", "8 7 5", opener);
        String other = rig.x.end(1, 1) + " " + rig.x.end(1, 3) + " " + rig.x.end(1, 5);
        Check.is("the end 1", "240 8 7", other);
    }
}
