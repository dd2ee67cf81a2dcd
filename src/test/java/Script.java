import java.lang.reflect.InvocationTargetException;
import java.lang.reflect.Method;
import java.util.ArrayList;
import java.util.List;

/** Calls written as words ("bid 0 5 6") on one object, each with the answer that is due. */
final class Script {
    static final String INDEX = "IndexOutOfBoundsException";
    static final String ARGUMENT = "IllegalArgumentException";
    static final String STATE = "IllegalStateException";

    /** What may come after a refused call, to show what it left behind; short, as an object has 512 calls. */
    private static final String[] TAILS = {
        "close; close; burst 0; end; repair 0; bid 0 1 1; close",
        "bid 0 99 5; bid 1 99 5; close; close; end",
        "district 1 1; source 77; pipe -1 0 5; need 0 3; need 1 3; end; close",
        "end; source 77; repair 0; repair 1; pipe -1 0 5; need 0 3; bid 1 0 1; bid 0 0 1; close; close",
        "bid 0 99 1; close; bid 0 99 2; close; close; burst 1",
        "bid 1 99 1; close; bid 1 99 2; close; close; burst 2",
    };

    /** What later calls answer is free. */
    private static final int MOST_CALLS = 512;

    private static int wrong = 0;
    private static int asked = 0;

    private final String name;
    private final PipewrightExchange exchange = new PipewrightExchange();
    private final List<String> told = new ArrayList<>();

    Script(String name) {
        this.name = name;
    }

    /** A line such as "bid 0 5 6 = 1"; several of them with ";" between. Calls without "=" may answer anything. */
    Script run(String lines) {
        for (String line : lines.split(";")) {
            String[] sides = line.trim().split(" = ");
            String got = answer(exchange, sides[0]);
            told.add(sides[0]);
            if (sides.length > 1) {
                same(name + ": " + sides[0], got, sides[1].trim());
            } else if (got.endsWith("Exception")) {
                same(name + ": " + sides[0], got, "no exception");
            }
        }
        if (told.size() > MOST_CALLS) {
            same(name, "more than 512 calls", "at most 512 calls");
        }
        return this;
    }

    /** So many districts with tanks of 99 and no need, a pipe of 9 from the source to each; the source gives 99. */
    Script row(int districts) {
        run("source 99");
        for (int d = 0; d < districts; d++) {
            run("district 99 0; pipe -1 " + d + " 9");
        }
        return this;
    }

    /** Each of the calls throws, and two objects with and without it answer the same to all that comes. */
    Script refuses(String calls, String exception) {
        for (String call : calls.split(";")) {
            same(name + ": " + call.trim(), answer(exchange, call), exception);
            for (String tail : TAILS) {
                same(name + ": " + call.trim() + " changes nothing", tail(replay(call), tail), tail(replay(), tail));
            }
        }
        return this;
    }

    /** A new object with all the calls that were told here, and some more. */
    private PipewrightExchange replay(String... more) {
        PipewrightExchange twin = new PipewrightExchange();
        for (String call : told) {
            answer(twin, call);
        }
        for (String call : more) {
            answer(twin, call);
        }
        return twin;
    }

    private static String tail(PipewrightExchange x, String calls) {
        StringBuilder all = new StringBuilder(asks(x));
        for (String call : calls.split(";")) {
            all.append(call).append(' ').append(answer(x, call)).append('\n');
        }
        return all.append(asks(x)).toString();
    }

    static String asks(PipewrightExchange x) {
        StringBuilder all = new StringBuilder();
        for (String call : new String[] {"hour", "round", "most 0", "most 1", "most 3", "most 255"}) {
            all.append(call).append(' ').append(answer(x, call)).append('\n');
        }
        for (int what = 0; what < 8; what++) {
            all.append("count ").append(what).append(' ').append(answer(x, "count " + what)).append('\n');
        }
        for (int d = 0; d < x.count(0); d++) {
            all.append("district ").append(d).append(':').append(answer(x, "place " + d));
            all.append(' ').append(answer(x, "flowAnew " + d));
            for (int what = 0; what < 9; what++) {
                all.append(' ').append(answer(x, "ofDistrict " + d + " " + what));
            }
            all.append('\n');
        }
        return all.toString();
    }

    /** What a call answers on the class or on a model of it: its value, or the simple name of what it throws. */
    static String answer(Object x, String call) {
        String[] words = call.trim().split(" ");
        Class<?>[] types = new Class<?>[words.length - 1];
        Object[] values = new Object[words.length - 1];
        for (int i = 1; i < words.length; i++) {
            types[i - 1] = int.class;
            values[i - 1] = Integer.valueOf(words[i]);
        }
        try {
            Method method = x.getClass().getDeclaredMethod(words[0], types);
            Object value = method.invoke(x, values);
            return value == null ? "nothing" : value.toString();
        } catch (InvocationTargetException e) {
            return nameOf(e.getCause());
        } catch (ReflectiveOperationException e) {
            throw new IllegalStateException(e);
        }
    }

    /** By where it was thrown, too: what the machine or the library throws is not what the document asks. */
    private static String nameOf(Throwable thrown) {
        String name = thrown.getClass().getSimpleName();
        StackTraceElement[] frames = thrown.getStackTrace();
        boolean byThrow = frames.length > 0 && frames[0].getClassName().matches("(Pipewright|Plain)Exchange.*")
            && List.of(INDEX, ARGUMENT, STATE).contains(name);
        return byThrow ? name : "the machine's " + name;
    }

    static void same(String what, String got, String due) {
        asked++;
        if (!got.equals(due)) {
            wrong++;
            System.out.println(what + " answered " + got + ", due is " + due);
        }
    }

    /** The last line of a test's main. */
    static void finish(String test) {
        System.out.println(test + ": " + asked + " checks, " + wrong + " wrong");
        if (wrong != 0 || asked == 0) {
            System.exit(1);
        }
    }
}
