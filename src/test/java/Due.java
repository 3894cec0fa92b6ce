import java.lang.reflect.InvocationTargetException;
import java.lang.reflect.Method;
import java.util.Arrays;
import java.util.Comparator;

/** Compares answers with those that are due, and keeps count of the ones that are not. */
final class Due {
    private static int wrong;
    private static String test = "";

    private Due() {
    }

    // ---- runs

    /** Runs every method of a test class whose name begins with "promise", so that none can be forgotten. */
    static void all(Class<?> tests) {
        Method[] methods = tests.getDeclaredMethods();
        Arrays.sort(methods, Comparator.comparing(Method::getName));
        int count = 0;
        for (Method method : methods) {
            if (method.getName().startsWith("promise")) {
                count++;
                run(method);
            }
        }
        is("there are tests", count > 0 ? 1 : 0, 1);
        end(tests.getName() + " (" + count + " tests)");
    }

    private static void run(Method method) {
        test = method.getName() + ": ";
        method.setAccessible(true);
        try {
            method.invoke(null);
        } catch (InvocationTargetException e) {
            tell("ended with " + e.getCause());
        } catch (IllegalAccessException e) {
            tell("could not be called");
        }
        test = "";
    }

    /** To be called last: fails the test if an answer was wrong. */
    static void end(String tests) {
        System.out.println(tests + ": " + (wrong == 0 ? "all answers are as due" : wrong + " answers are wrong"));
        if (wrong > 0) {
            System.exit(1);
        }
    }

    // ---- answers

    static void is(String call, long got, long want) {
        if (got != want) {
            tell(call + " answered " + got + ", due is " + want);
        }
    }

    static void isDouble(String call, double got, double want) {
        if (got != want) {
            tell(call + " answered " + got + ", due is " + want);
        }
    }

    static void isText(String call, String got, String want) {
        if (!got.equals(want)) {
            tell(call + " wrote " + got + ", due is " + want);
        }
    }

    static void throwsIndex(String call, Runnable run) {
        throwsThe(IndexOutOfBoundsException.class, call, run);
    }

    static void throwsArgument(String call, Runnable run) {
        throwsThe(IllegalArgumentException.class, call, run);
    }

    static void throwsState(String call, Runnable run) {
        throwsThe(IllegalStateException.class, call, run);
    }

    private static void throwsThe(Class<?> kind, String call, Runnable run) {
        Class<?> got = null;
        try {
            run.run();
        } catch (RuntimeException e) {
            got = e.getClass();
        }
        if (got != kind) {
            tell(call + " threw " + got + ", due is " + kind);
        }
    }

    static void tell(String line) {
        wrong++;
        if (wrong <= 30) {
            System.out.println(test + line);
        }
    }

    // ---- what the tests do with a contest

    /** Puts a text behind that of the buffer, four bytes a call; what is too much is cut off again. */
    static void append(RootDuel duel, String text) {
        int length = 0;
        for (int i = 0; i < text.length(); i += 4) {
            int four = 0;
            for (int j = i; j < i + 4; j++) {
                four = four << 8 | (j < text.length() ? text.charAt(j) & 255 : ' ');
            }
            length = duel.appendText(four);
        }
        if (text.length() % 4 != 0) {
            duel.truncateText(length - 4 + text.length() % 4);
        }
    }

    static int load(RootDuel duel, String setup) {
        append(duel, setup);
        return duel.load();
    }

    static int play(RootDuel duel, String script) {
        append(duel, script);
        return duel.play();
    }

    /** A contest that begins with this setup. */
    static RootDuel with(String setup) {
        RootDuel duel = new RootDuel();
        if (load(duel, setup) == RootDuel.NONE) {
            tell("the setup " + setup + " has an error at " + duel.errorPosition());
        }
        return duel;
    }

    /** A contest with this setup in which all the commands of the script were done. */
    static RootDuel played(String setup, String script) {
        RootDuel duel = with(setup);
        int commands = script.length() - script.replace(";", "").length();
        is("play of " + script, play(duel, script), commands);
        return duel;
    }

    /** A contest with this polynomial, its coefficients told from the power 0 on. */
    static RootDuel withPolynomial(int... coefficients) {
        StringBuilder setup = new StringBuilder();
        for (int power = 0; power < coefficients.length; power++) {
            setup.append("start ").append(coefficients[power]).append(' ').append(power).append(';');
        }
        return with(setup.toString());
    }

    /** The output as it is, read without writing it anew. */
    static String outputOf(RootDuel duel) {
        StringBuilder text = new StringBuilder();
        for (int i = 0; duel.output(i) != RootDuel.NONE; i++) {
            text.append((char) duel.output(i));
        }
        return text.toString();
    }

    static String turnsOf(RootDuel duel) {
        int length = duel.writeTurns();
        String text = outputOf(duel);
        is("writeTurns()", length, text.length());
        return text;
    }

    static String polynomialOf(RootDuel duel) {
        int length = duel.write();
        String text = outputOf(duel);
        is("write()", length, text.length());
        return text;
    }

    /** All that a saved state holds, as far as it is told; replaces the output. */
    static String stateOf(RootDuel duel) {
        StringBuilder state = new StringBuilder();
        for (int what = 0; what <= 15; what++) {
            state.append(what == 13 ? 0 : duel.count(what)).append(' ');
        }
        for (int power = 0; power < duel.count(0); power++) {
            for (int what = 0; what <= 4; what++) {
                state.append(duel.power(power, what)).append(' ');
            }
        }
        for (int player = 0; player <= 1; player++) {
            for (int what = 0; what <= 7; what++) {
                state.append(duel.player(player, what)).append(' ');
            }
            for (int at = 0; at < 28; at++) {
                state.append(duel.claimOf(player, at / 7, at % 7)).append(' ');
            }
        }
        return state.append(duel.winner()).append(' ').append(turnsOf(duel)).toString();
    }

    /** What undo and restore leave as it is: the accounts, the latest error, the output, the text's length. */
    static String besidesOf(RootDuel duel) {
        StringBuilder besides = new StringBuilder();
        for (int what = 0; what <= 8; what++) {
            besides.append(duel.account(what)).append(' ');
        }
        besides.append(duel.errorCode()).append(' ').append(duel.errorPosition()).append(' ');
        return besides.append(lengthOf(duel)).append(' ').append(outputOf(duel)).toString();
    }

    /** The length of a text of at most 40 bytes. */
    static int lengthOf(RootDuel duel) {
        for (int length = 40; length > 0; length--) {
            try {
                return duel.truncateText(length);
            } catch (IllegalArgumentException e) {
                // the text is shorter
            }
        }
        return 0;
    }
}
