import java.util.Arrays;

/** The edges that the document names of TABLES, at the end that sends and at the end that hears. */
final class EdgesOfTablesTest {
    public static void main(String[] args) {
        fixedFields();
        emptyAtFirst();
        theOneAddedLastFirst();
        leastIndex();
        sizeWithinTheLimit();
        firstLimit();
        onlyAsManyAsNeeded();
        sizesOfThoseLeft();
        asGreatAsTheLimit();
        aboveTheLimit();
        noTableAtAll();
        lowerLimit();
        lowerLimitThatFits();
        higherLimit();
        fullTable();
        nameOfOneTakenOff();
        oneWithAnIndexIsNotAdded();
        fourTables();
        Check.end("EdgesOfTablesTest");
    }

    /** The stream 1 is open, and the end 0 knows that TABLE of the end 1. */
    private static Rig rig(int table) {
        Rig rig = new Rig().open(1);
        rig.x.setting(1, 0, table);
        rig.settle();
        return rig;
    }

    /** The end 0 sends fields: the block. They are heard as they were sent, and the tables stay alike. */
    private static String send(Rig rig, String... fields) {
        rig.list(0, fields).x.headers(0, 1, false);
        int[] wire = rig.wire(1);
        rig.comeAll(1);
        Check.is("heard as sent", String.join(" ", fields), rig.fields(1, 1));
        Check.is("alike", rig.x.end(0, 2), rig.x.end(1, 3));
        return Arrays.toString(Arrays.copyOfRange(wire, 4, wire.length));
    }

    /** The fields of the table to hear by at the end 1, from the INDEX 6 on; asked of a copy. */
    private static String table(Rig rig) {
        Rig copy = new Rig(rig.x.copy());
        int count = copy.x.end(1, 3);
        StringBuilder all = new StringBuilder();
        for (int index = 6; index < 6 + count; index++) {
            copy.hear(1, Rig.HEADERS, 0, 1, 128 + index);
            all.append(index == 6 ? "" : " ").append(copy.fields(1, 1));
        }
        Check.is("an INDEX that there is none of", Rig.COMPRESSION, copy.errorOf(1, Rig.HEADERS, 0, 1, 134 + count));
        return all.toString();
    }

    private static void fixedFields() {
        Check.sentence("FIELDS with an INDEX: 1 m get, 2 m put, 3 p with an empty value, 4 s ok, 5 s no");
        String[] fixed = {"m=get", "m=put", "p=", "s=ok", "s=no"};
        for (int index = 1; index <= 5; index++) {
            Rig rig = rig(3);
            Check.is("sent", Rig.bytes(128 + index), send(rig, fixed[index - 1]));
            Check.is("not added", "0 0", rig.x.end(0, 2) + " " + rig.x.end(1, 3));
            rig.hear(1, Rig.HEADERS, 0, 1, 64 + index, 1, 'z');
            String name = fixed[index - 1].substring(0, 1);
            Check.is("its name", name + "=z", rig.fields(1, 1));
        }
        Check.is("not quite", Rig.bytes(65, 2, 'g', 'e'), send(rig(3), "m=ge"));
        Check.is("nor this", Rig.bytes(67, 1, 'p'), send(rig(3), "p=p"));
        Check.is("nor this", Rig.bytes(68, 0), send(rig(3), "s="));
        Check.is("nor this", Rig.bytes(64, 2, 'm', 'm', 3, 'g', 'e', 't'), send(rig(3), "mm=get"));
    }

    private static void emptyAtFirst() {
        Check.sentence("Each end has a table to send by and one to hear by, empty at first");
        for (int end = 0; end < 2; end++) {
            Rig rig = new Rig().open(1);
            Check.is("none", "0 0", rig.x.end(end, 2) + " " + rig.x.end(end, 3));
            Check.is("no INDEX 6", Rig.COMPRESSION, rig.errorOf(end, Rig.HEADERS, 0, 1, 134));
            Check.is("no name 6", Rig.COMPRESSION, new Rig().open(1).errorOf(end, Rig.HEADERS, 0, 1, 70, 0));
        }
    }

    private static void theOneAddedLastFirst() {
        Check.sentence("then those of the table, the one added last first, from 6 on");
        Rig rig = rig(3);
        send(rig, "a=", "b=", "c=", "d=");
        Check.is("the table", "d= c= b= a=", table(rig));
        Check.is("to send by", Rig.bytes(137, 136, 135, 134), send(rig, "a=", "b=", "c=", "d="));
        Check.is("by their names", Rig.bytes(73, 1, 'x'), send(rig, "a=x"));
        Check.is("one more", "a=x d= c= b=", table(rig));
    }

    private static void leastIndex() {
        Check.sentence("the byte 128 + the least INDEX; else the byte 64 + the least INDEX of a FIELD with that "
                + "name");
        Rig rig = rig(6);
        Check.is("the limit", Rig.bytes(38), send(rig));
        Check.is("m is 1, not 2", Rig.bytes(65, 1, 'x'), send(rig, "m=x"));
        Check.is("m is 1, not 6", Rig.bytes(65, 1, 'y'), send(rig, "m=y"));
        Check.is("s is 4, not 5", Rig.bytes(68, 1, 'x'), send(rig, "s=x"));
        Check.is("a is none", Rig.bytes(64, 1, 'a', 1, 'x'), send(rig, "a=x"));
        Check.is("a is 6", Rig.bytes(70, 1, 'y'), send(rig, "a=y"));
        Check.is("a is 6, not 7", Rig.bytes(70, 1, 'z'), send(rig, "a=z"));
        Check.is("the field, not the name", Rig.bytes(136), send(rig, "a=x"));
        Rig twice = new Rig().open(1);
        twice.hear(1, Rig.HEADERS, 0, 1, 64, 1, 'a', 0, 64, 1, 'a', 0);
        Check.is("a BLOCK may add one twice", "a= a=", table(twice));
    }

    /** A field of that SIZE, 7 to 18, whose letters are all that one. */
    private static String field(char letter, int size) {
        int nameLength = Math.max(1, size - 12);
        return letters(letter, nameLength) + "=" + letters(letter, size - 6 - nameLength);
    }

    private static String letters(char letter, int count) {
        char[] letters = new char[count];
        Arrays.fill(letters, letter);
        return new String(letters);
    }

    private static void sizeWithinTheLimit() {
        Check.sentence("A FIELD has the SIZE of its letters and 6. Adding one takes off the oldest ones till it "
                + "fits within the limit");
        for (int name = 1; name <= 6; name++) {
            for (int value = 0; value <= 6; value++) {
                String first = letters('a', name) + "=" + letters('b', value);
                int rest = 30 - 6 - name - value;
                Rig even = rig(3);
                send(even, first);
                send(even, rest > 18 ? new String[] {"x=", field('y', rest - 7)} : new String[] {field('y', rest)});
                Check.is("30 of 30, " + first, rest > 18 ? 3 : 2, even.x.end(1, 3));
                Check.is("it is the oldest", true, table(even).endsWith(first));
                rest++;
                Rig above = rig(3);
                send(above, first);
                send(above, rest > 18 ? new String[] {"x=", field('y', rest - 7)} : new String[] {field('y', rest)});
                Check.is("31 of 30, " + first, rest > 18 ? 2 : 1, above.x.end(1, 3));
                Check.is("it is off", false, table(above).endsWith(first));
            }
        }
    }

    private static void firstLimit() {
        Check.sentence("with a limit, 30 at first");
        for (int end = 0; end < 2; end++) {
            Rig rig = new Rig().open(1);
            rig.list(end, "a=", "b=", "c=d", "e=f").x.headers(end, 1, false);
            rig.comeAll(1 - end);
            Check.is("7 + 7 + 8 + 8", "4 4", rig.x.end(end, 2) + " " + rig.x.end(1 - end, 3));
            Rig above = new Rig().open(1);
            above.list(end, "a=", "b=", "c=d", "e=fg").x.headers(end, 1, false);
            above.comeAll(1 - end);
            Check.is("7 + 7 + 8 + 9", "3 3", above.x.end(end, 2) + " " + above.x.end(1 - end, 3));
        }
    }

    private static void onlyAsManyAsNeeded() {
        Check.sentence("Adding one takes off the oldest ones till it fits within the limit: no more than that");
        String[] four = {"a=", "b=", "c=d", "e=f"};
        int[] left = {4, 3, 3, 3, 3, 3, 3, 3, 2, 2, 2, 2};
        for (int size = 7; size <= 18; size++) {
            Rig rig = rig(3);
            send(rig, four);
            send(rig, field('z', size));
            Check.is("one of " + size, left[size - 7], rig.x.end(1, 3));
            String kept = "e=f c=d b=";
            int shorter = left[size - 7] == 4 ? kept.length() : left[size - 7] == 3 ? 7 : 3;
            Check.is("the newest stay", field('z', size) + " " + kept.substring(0, shorter), table(rig));
        }
    }

    private static void sizesOfThoseLeft() {
        Check.sentence("takes off the oldest ones till it fits: by the SIZES of those that are left, each time");
        Rig rig = rig(3);
        send(rig, "a=", field('b', 18));
        send(rig, field('c', 10));
        Check.is("7 is off for 18 + 10", "c=ccc bbbbbb=bbbbbb", table(rig));
        send(rig, "d=");
        Check.is("18 is off for 10 + 7", "d= c=ccc", table(rig));
        send(rig, field('e', 13));
        Check.is("10 + 7 + 13", "e=eeeeee d= c=ccc", table(rig));
        send(rig, field('f', 10));
        Check.is("10 is off for 7 + 13 + 10", "f=fff e=eeeeee d=", table(rig));
        send(rig, "g=");
        Check.is("7 is off for 13 + 10 + 7", "g= f=fff e=eeeeee", table(rig));
    }

    private static void asGreatAsTheLimit() {
        Check.sentence("one that is above the limit itself: one as great as the limit is added");
        Rig rig = rig(1);
        send(rig, "a=");
        Check.is("7 of 10", "a=", table(rig));
        send(rig, field('z', 10));
        Check.is("10 of 10", "z=zzz", table(rig));
        Check.is("it has an INDEX", Rig.bytes(134), send(rig, field('z', 10)));
        send(rig, "ab=cd");
        Check.is("another 10 of 10", "ab=cd", table(rig));
    }

    private static void aboveTheLimit() {
        Check.sentence("one that is above the limit itself empties the table and is not added");
        for (int size = 11; size <= 18; size++) {
            Rig rig = rig(1);
            send(rig, "a=");
            String sent = send(rig, field('z', size));
            Check.is(size + " of 10", "0 0", rig.x.end(0, 2) + " " + rig.x.end(1, 3));
            Check.is("it has no INDEX", sent, send(rig, field('z', size)));
            Check.is("a is none now", Rig.bytes(64, 1, 'a', 0), send(rig, "a="));
            Check.is("and is added again", "a=", table(rig));
        }
    }

    private static void noTableAtAll() {
        Check.sentence("TABLE 0: a limit of 0");
        Rig rig = rig(0);
        Check.is("told first", Rig.bytes(32, 64, 1, 'a', 0), send(rig, "a="));
        Check.is("none is added", "0 0", rig.x.end(0, 2) + " " + rig.x.end(1, 3));
        Check.is("told in full again", Rig.bytes(64, 1, 'a', 0, 129), send(rig, "a=", "m=get"));
        Check.is("none still", "0 0", rig.x.end(0, 2) + " " + rig.x.end(1, 3));
    }

    private static void lowerLimit() {
        Check.sentence("A lower limit takes off the oldest ones likewise");
        String[] newest = {"", "i=jkl", "i=jkl e=fgh", "i=jkl e=fgh a=bcd"};
        for (int table = 0; table <= 3; table++) {
            Rig rig = rig(3);
            send(rig, "a=bcd", "e=fgh", "i=jkl");
            rig.x.setting(1, 0, table);
            rig.settle();
            Check.is("not by the SETTING alone", "3 3", rig.x.end(0, 2) + " " + rig.x.end(1, 3));
            send(rig);
            Check.is("three of 10 to " + 10 * table, newest[table], table(rig));
            Check.is("both", table + " " + table, rig.x.end(0, 2) + " " + rig.x.end(1, 3));
        }
        Rig steps = rig(3);
        send(steps, "a=bcd", "e=fgh", "i=jkl");
        steps.hear(1, Rig.HEADERS, 0, 1, 34);
        Check.is("heard 20", "i=jkl e=fgh", table(steps));
        steps.hear(1, Rig.HEADERS, 0, 1, 33);
        Check.is("heard 10", "i=jkl", table(steps));
        steps.hear(1, Rig.HEADERS, 0, 1, 32);
        Check.is("heard 0", "", table(steps));
    }

    private static void lowerLimitThatFits() {
        Check.sentence("A lower limit takes off the oldest ones likewise: none where they fit");
        Rig even = rig(3);
        send(even, "a=bcd", "e=fgh");
        even.x.setting(1, 0, 2);
        even.settle();
        send(even);
        Check.is("20 to 20", "2 2", even.x.end(0, 2) + " " + even.x.end(1, 3));
        Rig above = rig(3);
        send(above, "a=", "b=", "c=");
        above.x.setting(1, 0, 2);
        above.settle();
        send(above);
        Check.is("21 to 20", "c= b=", table(above));
        Rig one = rig(3);
        send(one, field('z', 11));
        one.x.setting(1, 0, 1);
        one.settle();
        send(one);
        Check.is("11 to 10", "", table(one));
    }

    private static void higherLimit() {
        Check.sentence("that becomes it: a higher limit takes off none and brings none back");
        Rig rig = rig(3);
        send(rig, "a=bcd", "e=fgh", "i=jkl");
        rig.x.setting(1, 0, 1);
        rig.settle();
        send(rig);
        rig.x.setting(1, 0, 6);
        rig.settle();
        send(rig);
        Check.is("one is left", "i=jkl", table(rig));
        send(rig, "m=nop", "q=rst");
        send(rig, "u=vwx", "y=zab", "c=def");
        Check.is("60 of 60", 6, rig.x.end(1, 3));
        send(rig, "g=");
        Check.is("67 of 60", "g= c=def y=zab u=vwx q=rst m=nop", table(rig));
    }

    private static void fullTable() {
        Check.sentence("from 6 on: the most that fit are eight of SIZE 7 within 60");
        Rig rig = rig(6);
        send(rig, "a=", "b=", "c=", "d=");
        send(rig, "e=", "f=", "g=", "h=");
        Check.is("56 of 60", "h= g= f= e= d= c= b= a=", table(rig));
        Check.is("the oldest is 13", Rig.bytes(141), send(rig, "a="));
        Check.is("its name", Rig.bytes(77, 1, 'x'), send(rig, "a=x"));
        Check.is("64 of 60", "a=x h= g= f= e= d= c= b=", table(rig));
        Rig ninth = rig(6);
        send(ninth, "a=", "b=", "c=", "d=");
        send(ninth, "e=", "f=", "g=", "h=");
        send(ninth, "i=");
        Check.is("63 of 60", "i= h= g= f= e= d= c= b=", table(ninth));
        Rig four = rig(6);
        send(four, "a=", "b=", "c=", "d=");
        send(four, "e=", "f=", "g=", "hhh=hh");
        Check.is("49 + 11 of 60", 8, four.x.end(1, 3));
    }

    private static void nameOfOneTakenOff() {
        Check.sentence("the FIELD is added, though the one that gave its name is taken off for it");
        Rig rig = rig(3);
        send(rig, field('a', 18));
        Check.is("by its name", Rig.bytes(70, 6, 'b', 'b', 'b', 'b', 'b', 'b'), send(rig, "aaaaaa=bbbbbb"));
        Check.is("in its place", "aaaaaa=bbbbbb", table(rig));
        Rig above = rig(1);
        send(above, "ab=");
        Check.is("above the limit", Rig.bytes(70, 3, 'c', 'c', 'c'), send(above, "ab=ccc"));
        Check.is("emptied", "", table(above));
    }

    private static void oneWithAnIndexIsNotAdded() {
        Check.sentence("one with an INDEX: the byte; else .. and the FIELD is added");
        Rig rig = rig(3);
        Check.is("once in full", Rig.bytes(64, 1, 'a', 0, 134, 134), send(rig, "a=", "a=", "a="));
        Check.is("added once", "a=", table(rig));
        send(rig, "b=", "a=", "m=get");
        Check.is("it does not move", "b= a=", table(rig));
        rig.hear(1, Rig.HEADERS, 0, 1, 0, 1, 'c', 0);
        Check.is("nor is one that comes not to be added", "b= a=", table(rig));
    }

    private static void fourTables() {
        Check.sentence("Each end has a table to send by and one to hear by");
        Rig rig = new Rig().open(1);
        rig.list(0, "a=", "b=").x.headers(0, 1, false);
        Check.is("the end 0 sends", "2 0 0 0", tables(rig));
        rig.comeAll(1);
        Check.is("the end 1 hears", "2 0 0 2", tables(rig));
        rig.list(1, "a=").x.headers(1, 1, false);
        Check.is("by its own table", Rig.bytes(4, 1, 0, 1, 64, 1, 'a', 0), rig.wireText(0));
        Check.is("the end 1 sends", "2 0 1 2", tables(rig));
        rig.comeAll(0);
        Check.is("the end 0 hears", "2 1 1 2", tables(rig));
    }

    private static String tables(Rig rig) {
        return rig.x.end(0, 2) + " " + rig.x.end(0, 3) + " " + rig.x.end(1, 2) + " " + rig.x.end(1, 3);
    }
}
