/** Compares answers with those that are due, and keeps count of the ones that are not. */
final class Due {
    private static int wrong;

    private Due() {
    }

    static void is(String call, long got, long want) {
        if (got != want) {
            tell(call + " answered " + got + ", due is " + want);
        }
    }

    static void isDouble(String call, double got, double want) {
        if (got != want) {
            tell(call + " answered " + got + ", due is " + want);
        }
    }

    static void isText(String call, String got, String want) {
        if (!got.equals(want)) {
            tell(call + " wrote " + got + ", due is " + want);
        }
    }

    static void throwsIndex(String call, Runnable run) {
        throwsThe(IndexOutOfBoundsException.class, call, run);
    }

    static void throwsArgument(String call, Runnable run) {
        throwsThe(IllegalArgumentException.class, call, run);
    }

    static void throwsState(String call, Runnable run) {
        throwsThe(IllegalStateException.class, call, run);
    }

    private static void throwsThe(Class<?> kind, String call, Runnable run) {
        Class<?> got = null;
        try {
            run.run();
        } catch (RuntimeException e) {
            got = e.getClass();
        }
        if (got != kind) {
            tell(call + " threw " + got + ", due is " + kind);
        }
    }

    static void tell(String line) {
        wrong++;
        if (wrong <= 30) {
            System.out.println(line);
        }
    }

    /** To be called last: fails the test if an answer was wrong. */
    static void end(String test) {
        System.out.println(test + ": " + (wrong == 0 ? "all answers are as due" : wrong + " answers are wrong"));
        if (wrong > 0) {
            System.exit(1);
        }
    }

    // ---- what the tests do with a contest

    /** Puts a text behind that of the buffer, four bytes a call; what is too much is cut off again. */
    static void append(RootDuel duel, String text) {
        int length = 0;
        for (int i = 0; i < text.length(); i += 4) {
            int four = 0;
            for (int j = i; j < i + 4; j++) {
                four = four << 8 | (j < text.length() ? text.charAt(j) & 255 : ' ');
            }
            length = duel.appendText(four);
        }
        if (text.length() % 4 != 0) {
            duel.truncateText(length - 4 + text.length() % 4);
        }
    }

    static int load(RootDuel duel, String setup) {
        append(duel, setup);
        return duel.load();
    }

    static int play(RootDuel duel, String script) {
        append(duel, script);
        return duel.play();
    }

    static RootDuel with(String setup) {
        RootDuel duel = new RootDuel();
        if (load(duel, setup) == RootDuel.NONE) {
            tell("the setup " + setup + " has an error at " + duel.errorPosition());
        }
        return duel;
    }

    /** A contest with this polynomial, its coefficients told from the power 0 on. */
    static RootDuel withPolynomial(int... coefficients) {
        StringBuilder setup = new StringBuilder();
        for (int power = 0; power < coefficients.length; power++) {
            setup.append("start ").append(coefficients[power]).append(' ').append(power).append(';');
        }
        return with(setup.toString());
    }

    static String outputOf(RootDuel duel) {
        StringBuilder text = new StringBuilder();
        for (int i = 0; duel.output(i) != RootDuel.NONE; i++) {
            text.append((char) duel.output(i));
        }
        return text.toString();
    }

    static String turnsOf(RootDuel duel) {
        int length = duel.writeTurns();
        String text = outputOf(duel);
        is("writeTurns()", length, text.length());
        return text;
    }

    static String polynomialOf(RootDuel duel) {
        int length = duel.write();
        String text = outputOf(duel);
        is("write()", length, text.length());
        return text;
    }
}
