/** Promise 11: blocks that come, and the table to hear by. */
final class HearBlockTest {
    public static void main(String[] args) {
        indexes();
        names();
        notAdded();
        limits();
        otherBytes();
        texts();
        endInTheMidst();
        fiveFields();
        whatCameBeforeAnErrorStays();
        sizes();
        sameFieldTwice();
        aNameThatIsTakenOff();
        Check.end("HearBlockTest");
    }

    private static void indexes() {
        for (int index = 1; index <= 5; index++) {
            Check.is("index " + index, 0, new Rig().errorOfBlock(128 + index));
        }
        for (int index : new int[] {0, 6, 7, 13, 127}) {
            Check.is("index " + index, Rig.COMPRESSION, new Rig().errorOfBlock(128 + index));
        }
        Rig rig = new Rig();
        Check.is("one of the table", 0, rig.errorOfBlock(64, 1, 'a', 0, 64, 1, 'b', 0, 134, 135));
        Check.is("the one added last first", "a= b= b= a=", rig.fields(1, 1));
        Check.is("one above", Rig.COMPRESSION, rig.errorOfBlock(136));
    }

    private static void names() {
        Rig rig = new Rig();
        Check.is("all the fixed ones", 0, rig.errorOfBlock(65, 0, 66, 0, 67, 1, 'x', 68, 0, 69, 0));
        Check.is("heard", "m= m= p=x s= s=", rig.fields(1, 1));
        for (int index : new int[] {6, 7, 15, 16, 63}) {
            Check.is("name " + index, Rig.COMPRESSION, new Rig().errorOfBlock(64 + index, 0));
        }
        Rig table = new Rig();
        Check.is("of the table", 0, table.errorOfBlock(64, 2, 'a', 'b', 0, 70, 1, 'c', 71, 1, 'd'));
        Check.is("heard", "ab= ab=c ab=d", table.fields(1, 1));
    }

    private static void notAdded() {
        Rig rig = new Rig();
        Check.is("a new name", 0, rig.errorOfBlock(0, 1, 'a', 1, 'b', 1, 1, 'c', 5, 0));
        Check.is("heard", "a=b m=c s=", rig.fields(1, 1));
        Check.is("none is added", 0, rig.x.end(1, 3));
        Check.is("one is added", 0, rig.errorOfBlock(64, 1, 'z', 0, 6, 1, 'y'));
        Check.is("its name", "z= z=y", rig.fields(1, 1));
        Check.is("it alone", 1, rig.x.end(1, 3));
        for (int index = 6; index <= 15; index++) {
            Check.is("name " + index, Rig.COMPRESSION, new Rig().errorOfBlock(index, 0));
        }
    }

    private static void limits() {
        Rig rig = new Rig();
        Check.is("three fields", 0, rig.errorOfBlock(64, 1, 'a', 0, 64, 1, 'b', 0, 64, 1, 'c', 0));
        Check.is("up and down", 0, rig.errorOfBlock(35, 32, 33));
        Check.is("emptied on the way", 0, rig.x.end(1, 3));
        Check.is("own", 0, rig.errorOfBlock(35, 64, 1, 'a', 0, 64, 1, 'b', 0, 64, 1, 'c', 0, 64, 1, 'd', 0));
        Check.is("28 of 30", 4, rig.x.end(1, 3));
        Check.is("lower", 0, rig.errorOfBlock(34));
        Check.is("14 of 20", 2, rig.x.end(1, 3));
        Check.is("the newest stay", 0, rig.errorOfBlock(134, 135));
        Check.is("heard", "d= c=", rig.fields(1, 1));
        Check.is("above its own", Rig.COMPRESSION, rig.errorOfBlock(36));
        Check.is("the limit is as it was", 2, rig.x.end(1, 3));
        Check.is("behind a field", Rig.COMPRESSION, new Rig().errorOfBlock(129, 35));
        Rig high = new Rig();
        high.x.setting(1, 0, 6);
        Check.is("its own as soon as told", 0, high.errorOfBlock(38, 129));
        Check.is("39", Rig.COMPRESSION, high.errorOfBlock(39));
        int[] many = new int[40];
        java.util.Arrays.fill(many, 33);
        Check.is("forty limits", 0, new Rig().errorOfBlock(many));
    }

    private static void otherBytes() {
        for (int mark = 16; mark <= 31; mark++) {
            Check.is("byte " + mark, Rig.COMPRESSION, new Rig().errorOfBlock(mark, 0, 0));
        }
        for (int mark = 36; mark <= 63; mark++) {
            Check.is("byte " + mark, Rig.COMPRESSION, new Rig().errorOfBlock(mark));
        }
    }

    private static void texts() {
        Check.is("six letters", 0, new Rig().errorOfBlock(64, 6, 97, 97, 97, 122, 122, 122, 0));
        Check.is("seven", Rig.COMPRESSION, new Rig().errorOfBlock(64, 7, 97, 97, 97, 97, 97, 97, 97, 0));
        Check.is("a value of seven", Rig.COMPRESSION, new Rig().errorOfBlock(65, 7, 97, 97, 97, 97, 97, 97, 97));
        Check.is("a value of 255", Rig.COMPRESSION, new Rig().errorOfBlock(65, 255, 97));
        Check.is("an empty name", Rig.COMPRESSION, new Rig().errorOfBlock(64, 0, 1, 97));
        Check.is("an empty name behind all", Rig.COMPRESSION, new Rig().errorOfBlock(64, 0));
        Check.is("an empty name, then a field", Rig.COMPRESSION, new Rig().errorOfBlock(64, 0, 129));
        Check.is("a name that is none, then a field", Rig.COMPRESSION, new Rig().errorOfBlock(70, 129));
        Check.is("an empty name, not added", Rig.COMPRESSION, new Rig().errorOfBlock(0, 0, 1, 97));
        for (int letter : new int[] {96, 123, 0, 65, 255}) {
            Check.is("letter " + letter, Rig.COMPRESSION, new Rig().errorOfBlock(64, 1, letter, 0));
            Check.is("in a value", Rig.COMPRESSION, new Rig().errorOfBlock(65, 2, 97, letter));
        }
    }

    private static void endInTheMidst() {
        int[] block = {64, 2, 'a', 'b', 2, 'c', 'd'};
        for (int length = 1; length < block.length; length++) {
            int[] part = java.util.Arrays.copyOf(block, length);
            Rig rig = new Rig();
            Check.is(length + " of 7", Rig.COMPRESSION, rig.errorOfBlock(part));
            Check.is("nothing is added", 0, rig.x.end(1, 3));
        }
        Check.is("7 of 7", 0, new Rig().errorOfBlock(block));
        Check.is("a name by its index alone", Rig.COMPRESSION, new Rig().errorOfBlock(65));
        Check.is("an empty block", 0, new Rig().errorOfBlock());
    }

    private static void fiveFields() {
        Check.is("five", 0, new Rig().errorOfBlock(129, 129, 129, 129, 129));
        Check.is("six", Rig.COMPRESSION, new Rig().errorOfBlock(129, 129, 129, 129, 129, 129));
        Rig rig = new Rig();
        int[] six = {64, 1, 'a', 0, 129, 129, 129, 129, 64, 1, 'b', 0};
        Check.is("a sixth that would be added", Rig.COMPRESSION, rig.errorOfBlock(six));
        Check.is("is not looked at", 1, rig.x.end(1, 3));
        Rig limit = new Rig();
        Check.is("a limit", Rig.COMPRESSION, limit.errorOfBlock(64, 1, 'a', 0, 129, 129, 129, 129, 32));
        Check.is("is not looked at", 1, limit.x.end(1, 3));
    }

    private static void whatCameBeforeAnErrorStays() {
        Rig rig = new Rig();
        Check.is("the third is wrong", Rig.COMPRESSION, rig.errorOfBlock(64, 1, 'a', 0, 64, 1, 'b', 0, 128));
        Check.is("two were added", 2, rig.x.end(1, 3));
        Check.is("no stream", Rig.IDLE, rig.x.stream(1, 1, 0));
        Check.is("AWAY", Rig.bytes(2, 7, 0, 0, 0, 9), rig.wireText(0));
    }

    private static void sizes() {
        Rig rig = new Rig();
        int[] exact = {64, 1, 'a', 6, 97, 97, 97, 97, 97, 97, 64, 5, 98, 98, 98, 98, 98, 6, 98, 98, 98, 98, 98, 98};
        Check.is("13 + 17", 0, rig.errorOfBlock(exact));
        Check.is("30 of 30", 2, rig.x.end(1, 3));
        Check.is("one more", 0, rig.errorOfBlock(64, 1, 'c', 0));
        Check.is("the oldest is off", 2, rig.x.end(1, 3));
        Check.is("lower", 0, rig.errorOfBlock(33));
        Check.is("7 of 10", 1, rig.x.end(1, 3));
        Check.is("10 of 10", 0, rig.errorOfBlock(64, 2, 'd', 'd', 2, 'd', 'd'));
        Check.is("it alone", 1, rig.x.end(1, 3));
        Check.is("11 of 10", 0, rig.errorOfBlock(64, 2, 'd', 'd', 3, 'd', 'd', 'e'));
        Check.is("emptied, not added", 0, rig.x.end(1, 3));
        Check.is("but heard", "dd=dde", rig.fields(1, 1));
        Rig many = new Rig();
        many.x.setting(1, 0, 6);
        many.settle();
        int[] four = {38, 64, 1, 'a', 0, 64, 1, 'b', 0, 64, 1, 'c', 0, 64, 1, 'd', 0};
        Check.is("four of 7", 0, many.errorOfBlock(four));
        Check.is("and four", 0, many.errorOfBlock(four));
        Check.is("56 of 60", 8, many.x.end(1, 3));
        Check.is("the oldest one is 13", 0, many.errorOfBlock(141, 64 + 13, 0));
        Check.is("by its index", "a= a=", many.fields(1, 1));
        Check.is("eight still", 8, many.x.end(1, 3));
        Check.is("none is 14", Rig.COMPRESSION, many.errorOfBlock(142));
    }

    private static void sameFieldTwice() {
        Rig rig = new Rig();
        Check.is("added though it has an index", 0, rig.errorOfBlock(64, 1, 'a', 0, 64, 1, 'a', 0, 64, 1, 'm', 3, 'g', 'e', 't'));
        Check.is("three", 3, rig.x.end(1, 3));
    }

    private static void aNameThatIsTakenOff() {
        Rig rig = new Rig();
        Check.is("added", 0, rig.errorOfBlock(64, 6, 'a', 'b', 'c', 'd', 'e', 'f', 6, 97, 97, 97, 97, 97, 97));
        Check.is("its name goes on", 0, rig.errorOfBlock(70, 6, 98, 98, 98, 98, 98, 98));
        Check.is("heard", "abcdef=bbbbbb", rig.fields(1, 1));
        Check.is("alone in the table", 1, rig.x.end(1, 3));
        Check.is("by its index", 0, rig.errorOfBlock(134));
        Check.is("heard", "abcdef=bbbbbb", rig.fields(1, 1));
    }
}
