/** Promises 2 and 3: letter and wipe. */
final class TextTest {
    public static void main(String[] args) {
        lettersCount();
        wipeEmpties();
        wrongNumbers();
        everyLetterIsKept();
        textsAreNotOfAnEnd();
        Check.end("TextTest");
    }

    private static void lettersCount() {
        FrameStreams x = new FrameStreams();
        for (int text = 0; text < 8; text++) {
            int t = text;
            for (int length = 1; length <= 6; length++) {
                Check.is("letter " + length, length, x.letter(t, length % 2 == 0 ? 97 : 122));
            }
            Check.state("a seventh letter", () -> x.letter(t, 97));
            Check.is("the length is as it was", 6, x.wipe(t));
        }
    }

    private static void wipeEmpties() {
        FrameStreams x = new FrameStreams();
        Check.is("an empty one", 0, x.wipe(3));
        x.letter(3, 97);
        x.letter(3, 97);
        x.letter(4, 97);
        Check.is("two letters", 2, x.wipe(3));
        Check.is("empty then", 0, x.wipe(3));
        Check.is("begins anew", 1, x.letter(3, 98));
        Check.is("another one stays", 2, x.letter(4, 98));
    }

    private static void wrongNumbers() {
        FrameStreams x = new FrameStreams();
        for (int text : new int[] {-1, 8, Integer.MIN_VALUE, Integer.MAX_VALUE}) {
            Check.argument("letter of text " + text, () -> x.letter(text, 97));
            Check.argument("wipe of text " + text, () -> x.wipe(text));
        }
        for (int letter : new int[] {96, 123, 0, -97, 65, Integer.MIN_VALUE, Integer.MAX_VALUE}) {
            Check.argument("letter " + letter, () -> x.letter(0, letter));
        }
        for (int i = 0; i < 6; i++) {
            x.letter(1, 97);
        }
        Check.argument("the number counts before the state", () -> x.letter(1, 123));
    }

    private static void everyLetterIsKept() {
        Rig rig = new Rig();
        rig.list(0, "abcdef=ghijkl", "mnopqr=stuvwx", "zy=");
        rig.x.headers(0, 0, false);
        rig.comeAll(1);
        Check.is("fields", "abcdef=ghijkl mnopqr=stuvwx zy=", rig.fields(1, 1));
    }

    private static void textsAreNotOfAnEnd() {
        Rig rig = new Rig().open(1);
        rig.text(0, "ab");
        rig.x.field(0, 0, 0);
        rig.x.field(1, 0, 0);
        rig.x.headers(0, 1, false);
        rig.x.headers(1, 1, false);
        rig.settle();
        Check.is("from the end 0", "ab=ab", rig.fields(1, 1));
        Check.is("from the end 1", "ab=ab", rig.fields(0, 1));
        rig.put(1, 41, 0, 0, 0, 0);
        Check.error("the end 1 is SHUT", () -> rig.x.come(1, 1));
        Check.is("texts go on", 3, rig.x.letter(0, 97));
        Check.is("and are wiped", 3, rig.x.wipe(0));
    }
}
