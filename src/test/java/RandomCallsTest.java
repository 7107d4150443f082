import java.util.Random;

/**
 * All promises: whatever is called, only the document's exceptions come, a refused call changes nothing
 * that can be found out, and the tables of both ends stay alike as long as no byte is altered.
 */
final class RandomCallsTest {
    private static final int RUNS = 40;
    private static final int CALLS = 220;

    private final Random random;
    private final Rig rig = new Rig();
    private final Calls x = rig.x;
    /** Of a hundred arguments, how many are any number at all. */
    private final int wild;
    private final boolean alters;

    private RandomCallsTest(long seed) {
        random = new Random(seed);
        wild = random.nextInt(3) == 0 ? 6 : 0;
        alters = random.nextBoolean();
    }

    public static void main(String[] args) {
        for (int run = 0; run < RUNS; run++) {
            new RandomCallsTest(run).run("run " + run);
        }
        Check.end("RandomCallsTest");
    }

    private void run(String name) {
        for (int i = 0; i < CALLS; i++) {
            Calls before = x.copy();
            int kind = random.nextInt(20);
            String answer = Check.thrownBy(call(kind));
            String where = name + ", call " + i + ", kind " + kind;
            if (answer.equals("UnsupportedOperationException")) {
                Check.is(where + " throws for an error alone", true, kind >= 14);
            } else if (answer.endsWith("Exception")) {
                boolean isTold = answer.matches("(IllegalArgument|IllegalState|NoSuchElement)Exception");
                Check.is(where + " throws " + answer, true, isTold);
                Check.is(where + " changed by " + answer, "", State.difference(State.of(before), rig.all()));
            }
        }
        if (!alters) {
            tablesAreAlike(name);
        }
    }

    private void tablesAreAlike(String name) {
        for (int end = 0; end < 2; end++) {
            int hearer = end;
            while (x.end(hearer, 0) == 0 && x.end(hearer, 1) > 0) {
                Check.thrownBy(() -> x.come(hearer, 60));
            }
            if (x.end(hearer, 0) == 0) {
                Check.is(name + " tables", x.end(1 - hearer, 2), x.end(hearer, 3));
            }
        }
    }

    private Check.Call call(int kind) {
        int end = number(0, 1);
        int stream = 2 * number(0, 3) + 1;
        boolean last = random.nextInt(5) == 0;
        switch (kind) {
            case 0:
            case 1:
                return letter(number(0, 7), number('a', 'c'));
            case 2:
                return wipe(number(0, 7));
            case 3:
            case 4:
            case 5:
                return field(end, number(0, 7), number(0, 7));
            case 6:
                return () -> x.headers(0, 0, last);
            case 7:
                return () -> x.headers(end, stream, last);
            case 8:
                return data(end, stream, number(0, 20), number(0, 255), last);
            case 9:
                return window(end, random.nextBoolean() ? 0 : stream, number(1, 60));
            case 10:
                return reset(end, stream, number(0, 255));
            case 11:
                return setting(end, number(0, 2), number(0, 7));
            case 12:
                return ping(end, number(0, 255));
            case 13:
                return alter(end, number(0, 20), alters ? 1 << random.nextInt(8) : 0);
            default:
                return come(end, number(1, 60));
        }
    }

    private int number(int least, int greatest) {
        if (random.nextInt(100) < wild) {
            return random.nextBoolean() ? random.nextInt() : random.nextInt(600) - 300;
        }
        return least + random.nextInt(greatest - least + 1);
    }

    private Check.Call letter(int text, int letter) {
        return () -> x.letter(text, letter);
    }

    private Check.Call wipe(int text) {
        return () -> x.wipe(text);
    }

    private Check.Call field(int end, int name, int value) {
        return () -> x.field(end, name, value);
    }

    private Check.Call data(int end, int stream, int n, int v, boolean last) {
        return () -> x.data(end, stream, n, v, last);
    }

    private Check.Call window(int end, int stream, int n) {
        return () -> x.window(end, stream, n);
    }

    private Check.Call reset(int end, int stream, int code) {
        return () -> x.reset(end, stream, code);
    }

    private Check.Call setting(int end, int which, int value) {
        return () -> x.setting(end, which, value);
    }

    private Check.Call ping(int end, int v) {
        return () -> x.ping(end, v);
    }

    private Check.Call alter(int end, int i, int bits) {
        return () -> x.alter(end, i, bits);
    }

    private Check.Call come(int end, int n) {
        return () -> x.come(end, n);
    }
}
