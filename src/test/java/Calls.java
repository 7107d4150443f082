import java.util.ArrayList;
import java.util.List;

/**
 * A FrameStreams that keeps the calls made of it, so that another one can be brought into the same
 * state. What an object answers after its 512th call is free, so a test that goes on is itself wrong.
 */
final class Calls {
    /** One call with its arguments. */
    private interface Step {
        int on(FrameStreams x);
    }

    private static final int MOST = 512;

    private final FrameStreams x = new FrameStreams();
    /** The calls that may change something; asking is left out. */
    private final List<Step> made = new ArrayList<>();
    private int count = 0;

    /** Another object of which the same calls were made. */
    Calls copy() {
        Calls copy = new Calls();
        for (Step step : made) {
            Check.thrownBy(() -> copy.make(step));
        }
        return copy;
    }

    private int make(Step step) {
        made.add(step);
        return ask(step);
    }

    private int ask(Step step) {
        count++;
        if (count > MOST) {
            throw new AssertionError("a test makes more than 512 calls of an object");
        }
        return step.on(x);
    }

    int letter(int text, int letter) {
        return make(o -> o.letter(text, letter));
    }

    int wipe(int text) {
        return make(o -> o.wipe(text));
    }

    int field(int end, int name, int value) {
        return make(o -> o.field(end, name, value));
    }

    int headers(int end, int stream, boolean last) {
        return make(o -> o.headers(end, stream, last));
    }

    int data(int end, int stream, int n, int v, boolean last) {
        return make(o -> o.data(end, stream, n, v, last));
    }

    int window(int end, int stream, int n) {
        return make(o -> o.window(end, stream, n));
    }

    int reset(int end, int stream, int code) {
        return make(o -> o.reset(end, stream, code));
    }

    int setting(int end, int which, int value) {
        return make(o -> o.setting(end, which, value));
    }

    int ping(int end, int v) {
        return make(o -> o.ping(end, v));
    }

    int come(int end, int n) {
        return make(o -> o.come(end, n));
    }

    int alter(int end, int i, int bits) {
        return bits == 0 ? ask(o -> o.alter(end, i, bits)) : make(o -> o.alter(end, i, bits));
    }

    int stream(int end, int stream, int what) {
        return ask(o -> o.stream(end, stream, what));
    }

    int heard(int end, int stream, int i, boolean value, int k) {
        return ask(o -> o.heard(end, stream, i, value, k));
    }

    int end(int end, int what) {
        return ask(o -> o.end(end, what));
    }
}
