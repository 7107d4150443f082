/** Promise 4: field. */
final class FieldTest {
    public static void main(String[] args) {
        fieldsCount();
        anyText();
        fieldsAreCopies();
        wrongNumbers();
        wrongStates();
        Check.end("FieldTest");
    }

    private static void fieldsCount() {
        Rig rig = new Rig();
        rig.text(0, "a");
        for (int end = 0; end < 2; end++) {
            int e = end;
            for (int count = 1; count <= 5; count++) {
                Check.is("field " + count, count, rig.x.field(e, 0, 1));
                Check.is("in the LIST", count, rig.x.end(e, 6));
            }
            Check.state("a sixth field", () -> rig.x.field(e, 0, 1));
            Check.is("five stay", 5, rig.x.end(e, 6));
        }
    }

    private static void anyText() {
        for (int text = 0; text < 8; text++) {
            Rig rig = new Rig();
            rig.text(text, "ab");
            Check.is("name " + text, 1, rig.x.field(1, text, (text + 1) % 8));
            Check.is("value " + text, 2, rig.x.field(1, text, text));
        }
    }

    private static void fieldsAreCopies() {
        Rig rig = new Rig();
        rig.text(0, "ab");
        rig.text(1, "cd");
        rig.x.field(0, 0, 1);
        rig.x.letter(0, 'x');
        rig.x.wipe(1);
        rig.x.field(0, 0, 1);
        rig.x.field(0, 0, 0);
        rig.x.headers(0, 0, false);
        rig.comeAll(1);
        Check.is("as the texts were", "ab=cd abx= abx=abx", rig.fields(1, 1));
    }

    private static void wrongNumbers() {
        Rig rig = new Rig();
        rig.text(0, "a");
        for (int wrong : new int[] {-1, 8, Integer.MIN_VALUE, Integer.MAX_VALUE}) {
            Check.argument("name " + wrong, () -> rig.x.field(0, wrong, 0));
            Check.argument("value " + wrong, () -> rig.x.field(0, 0, wrong));
            Check.argument("value before an empty name", () -> rig.x.field(0, 1, wrong));
        }
        Check.argument("end -1", () -> rig.x.field(-1, 0, 0));
        Check.argument("end 2", () -> rig.x.field(2, 0, 0));
        Check.is("none was added", 0, rig.x.end(0, 6));
    }

    private static void wrongStates() {
        Rig rig = new Rig();
        rig.text(0, "a");
        Check.state("an empty name", () -> rig.x.field(0, 1, 0));
        Check.is("an empty value", 1, rig.x.field(0, 0, 1));
        rig.put(1, 41, 0, 0, 0, 0);
        Check.error("the end 1 is SHUT", () -> rig.x.come(1, 1));
        Check.state("at a SHUT end", () -> rig.x.field(1, 0, 0));
        Check.argument("numbers count before SHUT", () -> rig.x.field(1, 8, 0));
        Check.is("at the other end", 2, rig.x.field(0, 0, 0));
    }
}
