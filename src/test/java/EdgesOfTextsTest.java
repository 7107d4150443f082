/** The edges that the document names of ends, texts, fields and lists: promises 2, 3 and 4. */
final class EdgesOfTextsTest {
    private static final int[] NO_TEXTS = {-1, 8, Integer.MIN_VALUE, Integer.MAX_VALUE};

    public static void main(String[] args) {
        ends();
        textNumbers();
        sixLetters();
        aToZ();
        emptyAtFirst();
        lengthBefore();
        aNameIsNotEmpty();
        aValueMayBeEmpty();
        fiveFields();
        eachEndHasItsList();
        theListIsEmptyThen();
        Check.end("EdgesOfTextsTest");
    }

    private static void ends() {
        Check.sentence("ENDS 0 (it opens streams) and 1.");
        Rig rig = new Rig().open(1);
        rig.text(0, "a");
        rig.pings(0, 1).pings(1, 1);
        for (int end : new int[] {-1, 2, Integer.MIN_VALUE, Integer.MAX_VALUE}) {
            rig.argument("field of " + end, () -> rig.x.field(end, 0, 0));
            rig.argument("headers of " + end, () -> rig.x.headers(end, 1, false));
            rig.argument("data of " + end, () -> rig.x.data(end, 1, 1, 1, false));
            rig.argument("window of " + end, () -> rig.x.window(end, 0, 1));
            rig.argument("reset of " + end, () -> rig.x.reset(end, 1, 0));
            rig.argument("setting of " + end, () -> rig.x.setting(end, 0, 0));
            rig.argument("ping of " + end, () -> rig.x.ping(end, 0));
            rig.argument("come of " + end, () -> rig.x.come(end, 5));
            rig.argument("alter of " + end, () -> rig.x.alter(end, 0, 1));
            rig.argument("stream of " + end, () -> rig.x.stream(end, 1, 0));
            rig.argument("heard of " + end, () -> rig.x.heard(end, 1, 0, false, 0));
            rig.argument("end of " + end, () -> rig.x.end(end, 0));
        }
        for (int end = 0; end < 2; end++) {
            Check.is("field of " + end, 1, rig.x.field(end, 0, 0));
            Check.is("headers of " + end, 1, rig.x.headers(end, 1, false));
            Check.is("come of " + end, 1, rig.x.come(end, 5));
        }
        Check.is("0 opens", 3, rig.x.headers(0, 0, false));
        rig.state("1 does not", () -> rig.x.headers(1, 0, false));
    }

    private static void textNumbers() {
        Check.sentence("TEXTS 0 .. 7");
        Rig rig = new Rig();
        for (int text = 0; text <= 7; text++) {
            Check.is("letter of " + text, 1, rig.x.letter(text, 'a' + text));
        }
        Check.is("0 as the name, 7 as the value", 1, rig.x.field(0, 0, 7));
        Check.is("7 as the name, 0 as the value", 2, rig.x.field(0, 7, 0));
        for (int text : NO_TEXTS) {
            rig.argument("letter of " + text, () -> rig.x.letter(text, 'a'));
            rig.argument("wipe of " + text, () -> rig.x.wipe(text));
            rig.argument("a name " + text, () -> rig.x.field(0, text, 0));
            rig.argument("a value " + text, () -> rig.x.field(0, 0, text));
        }
        rig.x.headers(0, 0, false);
        rig.comeAll(1);
        Check.is("they are apart", "a=h h=a", rig.fields(1, 1));
        for (int text = 0; text <= 7; text++) {
            Check.is("wipe of " + text, 1, rig.x.wipe(text));
        }
    }

    private static void sixLetters() {
        Check.sentence("of at most 6 letters; IllegalStateException with six");
        for (int text = 0; text <= 7; text++) {
            int t = text;
            Rig rig = new Rig();
            rig.text(t, "azbyc");
            Check.is("the sixth", 6, rig.x.letter(t, 'x'));
            rig.state("the seventh", () -> rig.x.letter(t, 'w'));
            rig.x.field(0, t, t);
            rig.x.headers(0, 0, false);
            rig.comeAll(1);
            Check.is("as it was", "azbycx=azbycx", rig.fields(1, 1));
            Check.is("wiped", 6, rig.x.wipe(t));
            Check.is("there is place again", 1, rig.x.letter(t, 'w'));
        }
    }

    private static void aToZ() {
        Check.sentence("letters a .. z; a letter 97 .. 122");
        Rig rig = new Rig();
        Check.is("a", 1, rig.x.letter(0, 97));
        Check.is("z", 2, rig.x.letter(0, 122));
        for (int letter : new int[] {96, 123, 65, 0, -97, 97 + 256, Integer.MIN_VALUE, Integer.MAX_VALUE}) {
            rig.argument("letter " + letter, () -> rig.x.letter(0, letter));
        }
        rig.text(1, "aaaaaa");
        rig.argument("the number before the six", () -> rig.x.letter(1, 123));
        rig.x.field(0, 0, 0);
        rig.x.headers(0, 0, false);
        rig.comeAll(1);
        Check.is("they alone", "az=az", rig.fields(1, 1));
        Rig all = new Rig();
        all.list(0, "abcdef=ghijkl", "mnopqr=stuvwx", "yz=").x.headers(0, 0, false);
        all.comeAll(1);
        Check.is("each letter", "abcdef=ghijkl mnopqr=stuvwx yz=", all.fields(1, 1));
    }

    private static void emptyAtFirst() {
        Check.sentence("TEXTS .. empty at first");
        Rig rig = new Rig();
        for (int text = 0; text <= 7; text++) {
            int t = text;
            rig.state("no name " + text, () -> rig.x.field(0, t, t));
            Check.is("wipe " + text, 0, rig.x.wipe(text));
            Check.is("its first letter", 1, rig.x.letter(text, 'a'));
        }
    }

    private static void lengthBefore() {
        Check.sentence("The TEXT is empty: its length before.");
        Rig rig = new Rig();
        String letters = "aaaaaa";
        for (int length = 0; length <= 6; length++) {
            rig.text(2, letters.substring(0, length));
            Check.is("length " + length, length, rig.x.wipe(2));
            Check.is("none then", 0, rig.x.wipe(2));
            rig.state("an empty name then", () -> rig.x.field(0, 2, 2));
        }
    }

    private static void aNameIsNotEmpty() {
        Check.sentence("a name, a TEXT that is not empty; An empty name: IllegalStateException");
        Rig rig = new Rig();
        rig.text(0, "ab");
        rig.state("an empty name", () -> rig.x.field(0, 1, 0));
        rig.state("of the end 1 too", () -> rig.x.field(1, 1, 0));
        rig.state("an empty name and value", () -> rig.x.field(0, 1, 1));
        rig.x.letter(1, 'c');
        Check.is("of one letter", 1, rig.x.field(0, 1, 0));
        rig.x.wipe(1);
        rig.state("wiped again", () -> rig.x.field(0, 1, 0));
    }

    private static void aValueMayBeEmpty() {
        Check.sentence("and a value, a TEXT");
        Rig rig = new Rig();
        rig.text(0, "q");
        Check.is("an empty value", 1, rig.x.field(0, 0, 1));
        Check.is("the same text twice", 2, rig.x.field(0, 0, 0));
        rig.x.headers(0, 0, false);
        Check.is("bytes", Rig.bytes(7, 1, 0, 1, 64, 1, 'q', 0, 70, 1, 'q'), rig.wireText(1));
        rig.comeAll(1);
        Check.is("heard", "q= q=q", rig.fields(1, 1));
    }

    private static void fiveFields() {
        Check.sentence("a LIST of at most 5 FIELDS; or five: IllegalStateException");
        for (int end = 0; end < 2; end++) {
            int e = end;
            Rig rig = new Rig().open(1);
            rig.text(0, "a");
            for (int count = 1; count <= 5; count++) {
                Check.is("field " + count, count, rig.x.field(e, 0, 0));
            }
            rig.state("a sixth", () -> rig.x.field(e, 0, 0));
            rig.argument("the number before the five", () -> rig.x.field(e, 0, 8));
            Check.is("five", 5, rig.x.end(e, 6));
            rig.x.headers(e, 1, false);
            rig.comeAll(1 - e);
            Check.is("they are sent", "a=a a=a a=a a=a a=a", rig.fields(1 - e, 1));
            Check.is("there is place again", 1, rig.x.field(e, 0, 0));
        }
    }

    private static void eachEndHasItsList() {
        Check.sentence("Each end has a LIST");
        Rig rig = new Rig();
        rig.list(0, "a=", "b=", "c=", "d=", "e=");
        Check.is("none at the end 1", 0, rig.x.end(1, 6));
        rig.list(1, "f=");
        Check.is("one at the end 1", "5 1", rig.x.end(0, 6) + " " + rig.x.end(1, 6));
    }

    private static void theListIsEmptyThen() {
        Check.sentence("Sends HEADERS of the LIST, which is empty then");
        Rig rig = new Rig();
        Check.is("of an empty LIST", 1, rig.x.headers(0, 0, false));
        Check.is("bytes", Rig.bytes(0, 1, 0, 1), rig.wireText(1));
        rig.comeAll(1);
        Check.is("no fields", 0, rig.x.stream(1, 1, 5));
        rig.list(0, "m=get", "m=put", "p=", "s=ok", "s=no").x.headers(0, 1, false);
        Check.is("of a full LIST", Rig.bytes(5, 1, 0, 1, 129, 130, 131, 132, 133), rig.wireText(1));
        Check.is("empty then", 0, rig.x.end(0, 6));
        rig.comeAll(1);
        Check.is("five fields", "m=get m=put p= s=ok s=no", rig.fields(1, 1));
        rig.x.headers(0, 1, false);
        Check.is("nothing is sent twice", Rig.bytes(0, 1, 0, 1), rig.wireText(1));
    }
}
