/**
 * All that can be found out about an object, as a text: what it tells, and what it does next. Each part
 * is found out on a copy, so that the object itself is neither changed nor asked too often.
 */
final class State {
    private static final int WIRE = 240;
    private static final int LONGEST_FRAME = 44;

    private final StringBuilder all = new StringBuilder();

    private State() {
    }

    static String of(Calls x) {
        State state = new State();
        Calls asked = x.copy();
        state.numbers(asked);
        for (int end = 0; end < 2; end++) {
            state.bytes(x.copy(), end, WIRE);
            for (int stream = 1; stream <= 13; stream += 2) {
                if (asked.stream(end, stream, 5) > 0) {
                    state.tell("fields " + end + " " + stream, Rig.fields(x.copy(), end, stream));
                }
            }
        }
        state.texts(x.copy());
        state.ownSettings(x.copy());
        state.listAndTable(x.copy(), 0);
        state.listAndTable(x.copy(), 1);
        return state.all.toString();
    }

    /** The first line in which two states differ, empty if there is none. */
    static String difference(String before, String after) {
        String[] one = before.split("\n");
        String[] two = after.split("\n");
        for (int i = 0; i < Math.min(one.length, two.length); i++) {
            if (!one[i].equals(two[i])) {
                return one[i] + " became " + two[i];
            }
        }
        return one.length == two.length ? "" : "another number of lines";
    }

    private void tell(String what, Object value) {
        all.append(what).append(' ').append(value).append('\n');
    }

    private void numbers(Calls x) {
        for (int end = 0; end < 2; end++) {
            for (int what = 0; what <= 10; what++) {
                tell("end " + end + " " + what, x.end(end, what));
            }
            tell("connection", x.stream(end, 0, 1) + " " + x.stream(end, 0, 2));
            for (int stream = 1; stream <= 13; stream += 2) {
                for (int what = 0; what <= 5; what++) {
                    tell("stream " + end + " " + stream + " " + what, x.stream(end, stream, what));
                }
            }
        }
    }

    /** The last bytes on the way to the end, as many as asked for at most. */
    private void bytes(Calls x, int end, int most) {
        int count = x.end(end, 1);
        StringBuilder bytes = new StringBuilder();
        for (int i = Math.max(0, count - most); i < count; i++) {
            bytes.append(x.alter(end, i, 0)).append(' ');
        }
        tell("bytes to " + end, bytes);
    }

    private void texts(Calls x) {
        for (int text = 0; text < 8; text++) {
            tell("text " + text, x.wipe(text));
        }
    }

    private void ownSettings(Calls x) {
        drain(x);
        for (int end = 0; end < 2; end++) {
            for (int which = 0; which <= 2; which++) {
                int e = end;
                int w = which;
                tell("own " + end + " " + which, Check.thrownBy(() -> x.setting(e, w, 1)));
            }
        }
    }

    /** What the end makes of its list, and then of some fields, by the table to send by. */
    private void listAndTable(Calls x, int end) {
        drain(x);
        sendList(x, end);
        // The newest first: the tests add a=b, c=d, e=f, and one that is added anew takes off the oldest.
        for (int letter = 'e'; letter >= 'a'; letter -= 2) {
            addField(x, end, letter);
        }
        sendList(x, end);
    }

    private void addField(Calls x, int end, int letter) {
        for (int text = 0; text < 2; text++) {
            x.wipe(text);
            x.letter(text, letter + text);
        }
        tell("added", Check.thrownBy(() -> x.field(end, 0, 1)));
    }

    private void sendList(Calls x, int end) {
        String sent = Check.thrownBy(() -> x.headers(end, 0, false));
        for (int stream = 1; stream <= 13 && sent.equals("IllegalStateException"); stream += 2) {
            int s = stream;
            sent = Check.thrownBy(() -> x.headers(end, s, false));
        }
        tell("sent by " + end, sent);
        bytes(x, 1 - end, LONGEST_FRAME);
        drain(x);
    }

    /** All that is on the way comes, as far as the ends are not shut. */
    private void drain(Calls x) {
        for (int i = 0; i < 6; i++) {
            for (int end = 0; end < 2; end++) {
                int e = end;
                tell("come " + end, Check.thrownBy(() -> x.come(e, 60)));
            }
        }
    }
}
