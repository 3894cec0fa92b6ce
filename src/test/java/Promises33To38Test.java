/** The output, undo, saved states. */
public final class Promises33To38Test {
    private static final int NONE = RootDuel.NONE;
    private static final int[] NO_SLOTS = {-1, 2, Integer.MIN_VALUE, Integer.MAX_VALUE};
    /** A contest with each kind of act in it. */
    private static final String SETUP = "bar 2;turns 30;goal 3 5;start 2 0;";
    private static final String[] ACTS = {"lay 1 3;", "claim exactly -4 0 1 3;", "pass;", "lay -2 0;", "claim least 0 4 1 4;",
        "lay 3 2;", "claim exactly 0 4 0 2;", "lay 1 4;", "pass;", "claim least -4 0 2 4;", "lay -4 0;"};

    public static void main(String[] args) {
        Due.all(Promises33To38Test.class);
    }

    // ---- promise 33

    private static void expectWritten(String want, int... coefficients) {
        Due.isText("write()", Due.polynomialOf(Due.withPolynomial(coefficients)), want);
    }

    private static void promise33PIs0() {
        expectWritten("0");
        expectWritten("0", 0, 0, 0, 0, 0);
        Due.is("write() of a new object", new RootDuel().write(), 1);
    }

    private static void promise33FallingPowers() {
        expectWritten("5x^4+4x^3+3x^2+2x+9", 9, 2, 3, 4, 5);
        expectWritten("30x^4-30x^3+2x^2-2x+30", 30, -2, 2, -30, 30);
    }

    private static void promise33ZerosAreLeftOut() {
        expectWritten("-30x^4+10", 10, 0, 0, 0, -30);
        expectWritten("2x^3+7x", 0, 7, 0, 2);
        expectWritten("11x^3", 0, 0, 0, 11);
        expectWritten("-10x^2+9", 9, 0, -10);
    }

    private static void promise33CoefficientsOf1() {
        expectWritten("x^4+x^3+x^2+x+1", 1, 1, 1, 1, 1);
        expectWritten("-x^4-x^3-x^2-x-1", -1, -1, -1, -1, -1);
        expectWritten("x", 0, 1);
        expectWritten("x+1", 1, 1);
        expectWritten("x-1", -1, 1);
        expectWritten("-x", 0, -1);
        expectWritten("1", 1);
        expectWritten("-1", -1);
        expectWritten("-x+1", 1, -1);
        expectWritten("x^2-1", -1, 0, 1);
    }

    private static void promise33NumbersOfOneAndTwoDigits() {
        expectWritten("9x+10", 10, 9);
        expectWritten("-9x-10", -10, -9);
        expectWritten("29x^2+11x-30", -30, 11, 29);
    }

    private static void promise33OutputIsReplaced() {
        RootDuel duel = Due.withPolynomial(1, 1, 1, 1, 1);
        duel.write();
        Due.load(duel, "start 3 0;");
        Due.is("write()", duel.write(), 1);
        Due.is("output(0)", duel.output(0), '3');
        Due.is("output(1)", duel.output(1), NONE);
        duel.writeTurns();
        Due.is("output(0) behind writeTurns()", duel.output(0), NONE);
    }

    private static void promise33LongestPolynomial() {
        String longest = "-30x^4-30x^3-30x^2-30x-30";
        RootDuel duel = Due.withPolynomial(-30, -30, -30, -30, -30);
        Due.is("write()", duel.write(), longest.length());
        Due.isText("the output", Due.outputOf(duel), longest);
    }

    // ---- promise 34

    private static void promise34NoTurns() {
        RootDuel duel = Due.with("start 4 0;");
        duel.write();
        Due.is("writeTurns()", duel.writeTurns(), 0);
        Due.is("output(0)", duel.output(0), NONE);
    }

    private static void promise34EachCommand() {
        RootDuel duel = Due.played("bar 1;", "claim exactly -3 10 2 1;lay -9 4;pass;claim least -20 -3 0 9;lay 1 0;");
        Due.isText("writeTurns()", Due.turnsOf(duel),
                "claim exactly -3 10 2 1;lay -9 4;pass;claim least -20 -3 0 9;lay 1 0;");
    }

    private static void promise34ClaimOfThePresentTurn() {
        RootDuel duel = Due.played("bar 1;", "claim exactly -3 -2 2 1;");
        Due.isText("of the first turn", Due.turnsOf(duel), "claim exactly -3 -2 2 1;");
        Due.play(duel, "lay 3 1;pass;lay -3 2;claim least 19 20 4 9;");
        Due.isText("of a later one", Due.turnsOf(duel), "claim exactly -3 -2 2 1;lay 3 1;pass;lay -3 2;claim least 19 20 4 9;");
    }

    private static void promise34BlanksAreNotThoseOfTheScript() {
        RootDuel duel = Due.with("");
        Due.play(duel, " claim\nleast - 3  00 1 1 ;\n\nlay - 09\n4 ; pass ;");
        Due.isText("writeTurns()", Due.turnsOf(duel), "claim least -3 0 1 1;lay -9 4;pass;");
    }

    private static void promise34AsItIsNow() {
        RootDuel duel = Due.played("bar 1;", "lay 1 1;");
        duel.save(0);
        Due.play(duel, "claim least 0 1 1 3;lay 2 2;lay 3 3;");
        duel.undo();
        Due.isText("behind undo", Due.turnsOf(duel), "lay 1 1;claim least 0 1 1 3;lay 2 2;");
        duel.undo();
        Due.isText("behind undo of a term", Due.turnsOf(duel), "lay 1 1;claim least 0 1 1 3;");
        duel.undo();
        Due.isText("behind undo of a claim", Due.turnsOf(duel), "lay 1 1;");
        duel.pass();
        duel.restore(0);
        Due.isText("restored", Due.turnsOf(duel), "lay 1 1;");
        duel.lay(1, 1);
        Due.isText("behind a refusal", Due.turnsOf(duel), "lay 1 1;");
        duel.load();
        Due.isText("behind load", Due.turnsOf(duel), "");
    }

    private static void promise34WhenItIsOver() {
        Due.isText("two passes", Due.turnsOf(Due.played("", "lay 1 1;pass;pass;")), "lay 1 1;pass;pass;");
        Due.isText("roots", Due.turnsOf(Due.played("goal 1 1;", "claim least 0 1 0 1;lay 1 1;")),
                "claim least 0 1 0 1;lay 1 1;");
    }

    private static void promise34ScriptThatWouldMakeThem() {
        String setup = "bar 1;turns 8;";
        RootDuel duel = Due.played(setup, "claim least 1 2 1 2;lay 2 2;lay -3 1;pass;claim exactly 1 2 1 3;lay 1 0;lay -1 3;");
        RootDuel other = Due.with(setup);
        Due.is("play of the turns", Due.play(other, Due.turnsOf(duel)), 7);
        Due.isText("the state", Due.stateOf(other), Due.stateOf(duel));
    }

    /** Plays sixty turns, each with a term, and eight claims; answers the scripts. */
    private static String longestTurns(RootDuel duel) {
        StringBuilder all = new StringBuilder();
        StringBuilder part = new StringBuilder();
        for (int turn = 0; turn < 60; turn++) {
            if (turn < 8) {
                int a = turn - 20;
                part.append("claim exactly ").append(a).append(' ').append(a + 1).append(" 4 ").append(turn / 2 % 2 + 8).append(';');
            }
            part.append("lay ").append(turn / 3 % 2 == 0 ? -9 : 8).append(' ').append(turn % 3).append(';');
            if (part.length() > 300 || turn == 59) {
                Due.append(duel, part.toString());
                Due.is("errors of play", duel.play() == NONE ? duel.errorCode() : 0, 0);
                all.append(part);
                part.setLength(0);
            }
        }
        return all.toString();
    }

    /** An object has just 512 calls, so each part of the output is read from another one. */
    private static void promise34LongestOutput() {
        int part = 240;
        for (int from = 0; from < 3 * part; from += part) {
            RootDuel duel = Due.with("bar 1;turns 60;purse 40;");
            String want = longestTurns(duel);
            Due.is("count(7)", duel.count(7), 60);
            Due.is("writeTurns()", duel.writeTurns(), want.length());
            Due.is("parts that are enough", want.length() <= 3 * part ? 1 : 0, 1);
            for (int i = from; i < from + part && i < want.length(); i++) {
                Due.is("output(" + i + ")", duel.output(i), want.charAt(i));
            }
            Due.is("output behind it", duel.output(want.length()), NONE);
            Due.is("undo() of the last turn", duel.undo(), 11);
            Due.is("writeTurns() behind undo", duel.writeTurns(), want.lastIndexOf("lay"));
        }
    }

    // ---- promise 35

    private static void promise35NothingWasWritten() {
        RootDuel duel = Due.played("", "lay 1 1;");
        int[] indexes = {0, 1, -1, Integer.MIN_VALUE, Integer.MAX_VALUE};
        for (int index : indexes) {
            Due.is("output(" + index + ")", duel.output(index), NONE);
        }
    }

    private static void promise35NoSuchByte() {
        RootDuel duel = Due.withPolynomial(12, -3);
        Due.is("write()", duel.write(), 6);
        Due.is("output(0)", duel.output(0), '-');
        Due.is("output(5)", duel.output(5), '2');
        int[] none = {6, 7, -1, 599, 600, 1023, 1024, Integer.MIN_VALUE, Integer.MAX_VALUE};
        for (int index : none) {
            Due.is("output(" + index + ")", duel.output(index), NONE);
        }
    }

    private static void promise35StaysUntilItIsReplaced() {
        RootDuel duel = Due.withPolynomial(0, -3);
        duel.write();
        duel.lay(3, 0);
        duel.undo();
        duel.save(0);
        duel.pass();
        duel.restore(0);
        duel.appendText(0);
        duel.load();
        duel.play();
        duel.load();
        duel.best();
        duel.behind(1, 0, 0);
        Due.isText("the output", Due.outputOf(duel), "-3x");
    }

    // ---- promise 36

    private static void promise36NothingToUndo() {
        RootDuel duel = new RootDuel();
        Due.is("undo() of a new object", duel.undo(), NONE);
        duel.pass();
        Due.is("undo()", duel.undo(), 0);
        Due.is("undo() of nothing", duel.undo(), NONE);
        Due.is("undo() of nothing again", duel.undo(), NONE);
        Due.is("count(7)", duel.count(7), 0);
        Due.is("count(13)", duel.count(13), 0);
    }

    private static RootDuel playedUpTo(int acts) {
        RootDuel duel = Due.with(SETUP);
        for (int i = 0; i < acts; i++) {
            Due.is("play of " + ACTS[i], Due.play(duel, ACTS[i]), 1);
        }
        return duel;
    }

    private static void promise36EachAct() {
        for (int acts = 0; acts < ACTS.length; acts++) {
            RootDuel duel = playedUpTo(acts + 1);
            Due.is("undo() of " + ACTS[acts], duel.undo(), acts);
            Due.isText("the state ahead of " + ACTS[acts], Due.stateOf(duel), Due.stateOf(playedUpTo(acts)));
        }
    }

    private static void promise36AllActs() {
        for (int left = 0; left < ACTS.length; left++) {
            RootDuel duel = playedUpTo(ACTS.length);
            for (int acts = ACTS.length - 1; acts >= left; acts--) {
                Due.is("undo() of " + ACTS[acts], duel.undo(), acts);
            }
            Due.isText("the state behind " + left, Due.stateOf(duel), Due.stateOf(playedUpTo(left)));
        }
    }

    private static void promise36ActThatEndedTheContest() {
        String[] setups = {"turns 2;", "bar 0;powers 2;", "goal 1 9;", "bar 1;", "goal 1 9;turns 2;"};
        String[] first = {"lay 1 2;", "lay 1 0;", "pass;", "pass;", "pass;"};
        String[] last = {"pass;", "lay 1 1;", "lay 1 1;", "pass;", "lay 1 1;"};
        for (int i = 0; i < setups.length; i++) {
            RootDuel duel = Due.played(setups[i], first[i] + last[i]);
            Due.is("over with " + setups[i], duel.count(9), 1);
            Due.is("undo()", duel.undo(), 1);
            Due.isText("the state", Due.stateOf(duel), Due.stateOf(Due.played(setups[i], first[i])));
            Due.is("count(15)", duel.count(15), NONE);
            Due.is("winner()", duel.winner(), NONE);
        }
    }

    private static void promise36LastOfSixtyTurns() {
        RootDuel duel = Due.with("bar 1;turns 60;");
        for (int turn = 0; turn < 60; turn++) {
            duel.lay(1, turn % 3);
        }
        Due.is("over", duel.count(9), 1);
        Due.is("undo()", duel.undo(), 11);
        Due.is("count(7)", duel.count(7), 59);
        Due.is("count(9)", duel.count(9), 0);
        Due.is("power(2, 0)", duel.power(2, 0), 19);
        Due.is("power(2, 3)", duel.power(2, 3), 56);
        Due.is("lay again", duel.lay(2, 2), 0);
        Due.is("over again", duel.count(9), 1);
    }

    private static void promise36LatestTwelve() {
        RootDuel duel = Due.with("bar 1;turns 60;");
        for (int act = 0; act < 13; act++) {
            duel.lay(1, act % 3);
        }
        for (int left = 11; left >= 0; left--) {
            Due.is("undo()", duel.undo(), left);
        }
        Due.is("the 13th", duel.undo(), NONE);
        Due.isText("one act stays", Due.turnsOf(duel), "lay 1 0;");
        duel.lay(1, 1);
        Due.is("a new act", duel.undo(), 0);
        Due.is("the first act still", duel.undo(), NONE);
    }

    private static void promise36TwelveOfTwelve() {
        RootDuel duel = Due.with("bar 1;turns 60;");
        for (int act = 0; act < 12; act++) {
            duel.lay(1, act % 3);
        }
        for (int left = 11; left >= 0; left--) {
            Due.is("undo()", duel.undo(), left);
        }
        Due.is("count(7)", duel.count(7), 0);
    }

    private static void promise36NewActsBehindUndo() {
        RootDuel duel = Due.with("bar 1;turns 60;");
        for (int act = 0; act < 20; act++) {
            duel.lay(1, act % 3);
        }
        for (int i = 0; i < 5; i++) {
            duel.undo();
        }
        for (int act = 15; act < 18; act++) {
            duel.lay(2, act % 3);
        }
        Due.is("count(13)", duel.count(13), 10);
        for (int left = 9; left >= 0; left--) {
            Due.is("undo()", duel.undo(), left);
        }
        Due.is("undo()", duel.undo(), NONE);
        Due.is("count(7)", duel.count(7), 8);
        Due.is("power(0, 0)", duel.power(0, 0), 3);
    }

    private static void promise36RefusalsAreNoActs() {
        RootDuel duel = Due.played("", "lay 1 1;");
        duel.lay(1, 1);
        Due.is("count(13)", duel.count(13), 1);
        Due.is("undo()", duel.undo(), 0);
        Due.is("degree()", duel.degree(), NONE);
    }

    private static void promise36WhatStays() {
        RootDuel duel = Due.played("bar 1;", "lay 3 2;");
        duel.lay(3, 2);
        duel.write();
        Due.load(duel, "bar 77;");
        duel.save(0);
        duel.lay(1, 1);
        Due.append(duel, "bar 5;");
        String besides = Due.besidesOf(duel);
        Due.is("undo()", duel.undo(), 1);
        Due.isText("what is besides", Due.besidesOf(duel), besides);
        Due.is("undo()", duel.undo(), 0);
        Due.isText("what is besides", Due.besidesOf(duel), besides);
        Due.is("the text", duel.load(), 1);
        Due.is("count(1)", duel.count(1), 5);
        duel.restore(0);
        Due.is("the saved state", duel.degree(), 2);
    }

    private static void promise36BarsAndClaims() {
        RootDuel duel = Due.played("bar 1;turns 60;", "claim least 0 5 1 9;lay 1 1;");
        Due.is("why(1, 1)", duel.why(1, 1), 6);
        duel.undo();
        Due.is("why(1, 1) behind undo", duel.why(1, 1), 0);
        Due.is("claim behind undo of the term", duel.claim(7, 8, 0, false, 1), 2);
        duel.undo();
        Due.is("claimOf(0, 0, 0)", duel.claimOf(0, 0, 0), NONE);
        Due.is("claim on the same interval", duel.claim(3, 6, 0, false, 9), 0);
        Due.is("claimOf(0, 0, 0)", duel.claimOf(0, 0, 0), 3);
    }

    private static void promise36ActsOfPlayOneByOne() {
        RootDuel duel = Due.played("", "claim least 0 5 1 9;lay 1 1;pass;");
        Due.is("undo()", duel.undo(), 2);
        Due.is("undo()", duel.undo(), 1);
        Due.is("undo()", duel.undo(), 0);
        Due.is("undo()", duel.undo(), NONE);
    }

    // ---- promise 37

    private static void promise37SlotOutOfRange() {
        RootDuel duel = new RootDuel();
        for (int slot : NO_SLOTS) {
            Due.throwsArgument("save(" + slot + ")", () -> duel.save(slot));
        }
        Due.throwsState("nothing is saved", () -> duel.restore(0));
        Due.throwsState("nothing is saved", () -> duel.restore(1));
    }

    private static void promise37EachSlot() {
        RootDuel duel = new RootDuel();
        duel.save(0);
        Due.throwsState("restore(1)", () -> duel.restore(1));
        duel.lay(1, 1);
        duel.save(1);
        duel.restore(0);
        Due.is("slot 0", duel.degree(), NONE);
        duel.restore(1);
        Due.is("slot 1", duel.degree(), 1);
        RootDuel other = new RootDuel();
        other.save(1);
        Due.throwsState("restore(0)", () -> other.restore(0));
    }

    private static void promise37SavedStateIsReplaced() {
        RootDuel duel = new RootDuel();
        duel.lay(1, 1);
        duel.save(0);
        duel.save(1);
        duel.lay(1, 2);
        duel.save(0);
        duel.restore(0);
        Due.is("slot 0", duel.degree(), 2);
        duel.restore(1);
        Due.is("slot 1", duel.degree(), 1);
    }

    private static void promise37SaveChangesNothing() {
        RootDuel duel = playedUpTo(ACTS.length);
        duel.save(0);
        Due.isText("the state", Due.stateOf(duel), Due.stateOf(playedUpTo(ACTS.length)));
        Due.is("count(13)", duel.count(13), ACTS.length);
        Due.is("undo()", duel.undo(), ACTS.length - 1);
    }

    // ---- promise 38

    private static void promise38SlotOutOfRange() {
        RootDuel duel = new RootDuel();
        for (int slot : NO_SLOTS) {
            Due.throwsArgument("restore(" + slot + ") without saved states", () -> duel.restore(slot));
        }
        duel.save(0);
        duel.save(1);
        for (int slot : NO_SLOTS) {
            Due.throwsArgument("restore(" + slot + ")", () -> duel.restore(slot));
        }
    }

    private static void promise38NothingIsSavedThere() {
        RootDuel duel = Due.played("", "lay 1 1;");
        Due.throwsState("restore(0)", () -> duel.restore(0));
        duel.save(1);
        Due.throwsState("restore(0)", () -> duel.restore(0));
        Due.is("count(13)", duel.count(13), 1);
        RootDuel other = new RootDuel();
        Due.throwsState("a saved state of another object", () -> other.restore(1));
    }

    private static void promise38BringsBackAll() {
        for (int acts = 0; acts <= ACTS.length; acts++) {
            RootDuel duel = playedUpTo(acts);
            duel.save(0);
            Due.load(duel, "powers 2;turns 7;start 3 1;reach 20;purse 40;bar 1;");
            Due.play(duel, "claim least -20 20 4 9;lay 1 0;claim exactly 3 4 0 1;pass;pass;");
            duel.restore(0);
            Due.isText("the state behind " + acts, Due.stateOf(duel), Due.stateOf(playedUpTo(acts)));
        }
    }

    private static void promise38BringsBackTheEnd() {
        String setup = "powers 3;bar 1;turns 7;reach 2;goal 2 8;purse 20;start 1 2;";
        String script = "claim least -2 2 2 6;lay -2 0;";
        RootDuel duel = Due.played(setup, script);
        duel.save(1);
        duel.load();
        duel.restore(1);
        Due.isText("the state", Due.stateOf(duel), Due.stateOf(Due.played(setup, script)));
        Due.is("count(15)", duel.count(15), 0);
        Due.is("pass", duel.pass(), 1);
    }

    private static void promise38StaysSaved() {
        RootDuel duel = Due.with("bar 1;");
        duel.lay(1, 1);
        duel.save(0);
        for (int i = 0; i < 3; i++) {
            duel.restore(0);
            Due.isText("the turns", Due.turnsOf(duel), "lay 1 1;");
            duel.lay(1, 2);
            duel.claim(0, 1, 1, true, 1);
        }
    }

    private static void promise38ClaimOfTheTurnIsBroughtBack() {
        RootDuel duel = Due.played("", "lay 1 1;claim least 0 5 1 3;");
        duel.save(0);
        duel.pass();
        duel.restore(0);
        Due.is("another claim in the turn", duel.claim(5, 6, 1, true, 1), 2);
        Due.is("a barred power", duel.lay(1, 1), 6);
        duel.load();
        duel.claim(0, 1, 0, true, 1);
        duel.save(1);
        duel.restore(1);
        Due.is("another claim in the first turn", duel.claim(5, 6, 1, true, 1), 2);
    }

    private static void promise38NoActCanBeUndone() {
        RootDuel duel = Due.played("", "lay 1 1;");
        duel.save(0);
        Due.is("count(13) behind save", duel.count(13), 1);
        duel.lay(1, 2);
        duel.restore(0);
        Due.is("count(13)", duel.count(13), 0);
        Due.is("undo()", duel.undo(), NONE);
        Due.is("degree()", duel.degree(), 1);
        duel.pass();
        Due.is("undo() of a new act", duel.undo(), 0);
    }

    private static void promise38WhatStays() {
        RootDuel duel = Due.played("bar 1;", "lay 1 1;");
        duel.save(0);
        duel.lay(1, 1);
        duel.lay(1, 2);
        duel.write();
        Due.play(duel, "lay 0");
        Due.append(duel, "pass;");
        String besides = Due.besidesOf(duel);
        duel.restore(0);
        Due.isText("what is besides", Due.besidesOf(duel), besides);
        Due.is("account(0)", duel.account(0), 2);
        Due.is("errorCode()", duel.errorCode(), 2);
        Due.is("the text", duel.play(), 1);
        Due.is("count(12)", duel.count(12), 1);
    }
}
