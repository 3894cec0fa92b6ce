/** Promises 14 to 19: claims, terms, passes, and what is told ahead of them. */
public final class ActsTest {
    public static void main(String[] args) {
        claimArguments();
        claimReasons();
        fourClaims();
        intervals();
        termArguments();
        termReasons();
        passes();
        ends();
        why();
        best();
        bestOfSeveral();
        bestWithBonus();
        behind();
        behindEnds();
        Due.end("ActsTest");
    }

    private static void claimArguments() {
        RootDuel duel = new RootDuel();
        Due.throwsArgument("a -21", () -> duel.claim(-21, 0, 0, true, 1));
        Due.throwsArgument("a 20", () -> duel.claim(20, 21, 0, true, 1));
        Due.throwsArgument("a 20, b 20", () -> duel.claim(20, 20, 0, true, 1));
        Due.throwsArgument("b 21", () -> duel.claim(0, 21, 0, true, 1));
        Due.throwsArgument("b = a", () -> duel.claim(3, 3, 0, true, 1));
        Due.throwsArgument("b < a", () -> duel.claim(3, 2, 0, true, 1));
        Due.throwsArgument("b least", () -> duel.claim(3, Integer.MIN_VALUE, 0, true, 1));
        Due.throwsArgument("a greatest", () -> duel.claim(Integer.MAX_VALUE, Integer.MIN_VALUE, 0, true, 1));
        Due.throwsArgument("roots -1", () -> duel.claim(0, 1, -1, true, 1));
        Due.throwsArgument("roots 5", () -> duel.claim(0, 1, 5, true, 1));
        Due.throwsArgument("stake 0", () -> duel.claim(0, 1, 0, true, 0));
        Due.throwsArgument("stake 10", () -> duel.claim(0, 1, 0, true, 10));
        Due.is("nothing changed", duel.count(14), 0);
        Due.is("nothing counted", duel.account(0), 0);
        Due.is("least", duel.claim(-20, -19, 0, true, 1), 0);
        duel.pass();
        Due.is("most", duel.claim(19, 20, 4, false, 9), 0);
        duel.lay(1, 1);
        Due.is("wide", duel.claim(-19, 20, 0, false, 9), 0);
        Due.throwsArgument("ahead of a reason", () -> duel.claim(0, 0, 0, true, 1));
    }

    private static void claimReasons() {
        RootDuel duel = Due.with("purse 10;turns 6;bar 1;");
        Due.is("claim", duel.claim(0, 4, 1, true, 4), 0);
        Due.is("2 ahead of 4 and 5", duel.claim(0, 4, 1, true, 9), 2);
        duel.lay(1, 1);
        Due.is("the other player's interval", duel.claim(0, 4, 1, true, 9), 0);
        Due.is("2", duel.claim(8, 9, 1, true, 1), 2);
        duel.lay(1, 2);
        Due.is("4 ahead of 5", duel.claim(3, 5, 1, true, 9), 4);
        Due.is("5", duel.claim(4, 5, 1, true, 7), 5);
        Due.is("the whole purse", duel.claim(4, 5, 1, true, 6), 0);
        duel.lay(1, 3);
        Due.is("5 of the other one", duel.claim(4, 5, 1, true, 2), 5);
        duel.pass();
        Due.is("5 with nothing left", duel.claim(5, 6, 1, true, 1), 5);
        duel.pass();
        Due.is("over", duel.count(9), 1);
        Due.is("1", duel.claim(5, 6, 1, true, 1), 1);
        Due.is("1 ahead of all", duel.claim(0, 4, 1, true, 9), 1);
        int[] want = {8, 2, 2, 0, 1, 3, 0, 0, 0};
        for (int what = 0; what < want.length; what++) {
            Due.is("account(" + what + ")", duel.account(what), want[what]);
        }
    }

    private static void fourClaims() {
        RootDuel duel = Due.with("purse 40;turns 20;bar 1;");
        for (int i = 0; i < 4; i++) {
            Due.is("claim of 0", duel.claim(i, i + 1, 0, true, 1), 0);
            duel.lay(1, i);
            Due.is("claim of 1", duel.claim(i, i + 1, 0, true, 9), 0);
            duel.pass();
        }
        Due.is("3 ahead of 4", duel.claim(0, 9, 0, true, 1), 3);
        Due.is("3", duel.claim(9, 10, 0, true, 1), 3);
        Due.is("player(0, 4)", duel.player(0, 4), 4);
        Due.is("player(0, 5)", duel.player(0, 5), 4);
        duel.lay(1, 1);
        Due.is("3 ahead of 5", duel.claim(9, 10, 0, true, 9), 3);
        Due.is("player(1, 5)", duel.player(1, 5), 36);
        Due.is("claimOf(1, 3, 0)", duel.claimOf(1, 3, 0), 3);
        Due.is("claimOf(1, 4, 0)", duel.claimOf(1, 4, 0), RootDuel.NONE);
    }

    private static void intervals() {
        int[][] apart = {{-5, 0}, {4, 5}, {-20, 0}, {4, 20}};
        int[][] over = {{-5, 1}, {3, 5}, {0, 4}, {1, 2}, {-20, 20}, {0, 1}, {3, 4}};
        for (int[] other : apart) {
            Due.is("apart " + other[0], second(other), 0);
        }
        for (int[] other : over) {
            Due.is("overlap " + other[0], second(other), 4);
        }
    }

    /** The answer to a claim on an interval behind one on that from 0 to 4. */
    private static int second(int[] interval) {
        RootDuel duel = new RootDuel();
        duel.claim(0, 4, 0, true, 1);
        duel.lay(1, 1);
        duel.pass();
        return duel.claim(interval[0], interval[1], 0, true, 1);
    }

    private static void termArguments() {
        RootDuel duel = Due.with("powers 3;");
        int[] wrong = {0, 10, -10, Integer.MIN_VALUE, Integer.MAX_VALUE};
        for (int coefficient : wrong) {
            Due.throwsArgument("lay(" + coefficient + ")", () -> duel.lay(coefficient, 2));
            Due.throwsArgument("why(" + coefficient + ")", () -> duel.why(coefficient, 2));
            Due.throwsArgument("behind(" + coefficient + ")", () -> duel.behind(coefficient, 2, 0));
        }
        int[] powers = {-1, 3, 5, Integer.MIN_VALUE, Integer.MAX_VALUE};
        for (int power : powers) {
            Due.throwsIndex("lay on " + power, () -> duel.lay(0, power));
            Due.throwsIndex("why on " + power, () -> duel.why(0, power));
            Due.throwsIndex("behind on " + power, () -> duel.behind(0, power, 9));
        }
        Due.throwsArgument("behind, what 4", () -> duel.behind(1, 1, 4));
        Due.throwsArgument("behind, what -1", () -> duel.behind(1, 1, -1));
        Due.is("lay(9, 2)", duel.lay(9, 2), 0);
        Due.throwsArgument("behind a bar, what 4", () -> duel.behind(1, 2, 4));
        Due.throwsState("behind a bar", () -> duel.behind(1, 2, 0));
        Due.is("lay(-9, 0)", duel.lay(-9, 0), 0);
        Due.is("account(0)", duel.account(0), 2);
        Due.is("account(6)", duel.account(6), 0);
    }

    private static void termReasons() {
        RootDuel duel = Due.with("bar 1;turns 9;start 25 3;start -25 2;");
        Due.is("30", duel.why(5, 3), 0);
        Due.is("31", duel.lay(6, 3), 7);
        Due.is("-30", duel.why(-5, 2), 0);
        Due.is("-31", duel.lay(-6, 2), 7);
        duel.lay(5, 3);
        Due.is("6 ahead of 7", duel.lay(1, 3), 6);
        duel.lay(-5, 2);
        Due.is("power(2, 0)", duel.power(2, 0), -30);
        Due.is("power(3, 0)", duel.power(3, 0), 30);
        duel = Due.with("start 7 3;bar 1;");
        Due.is("P would be 0", duel.lay(-7, 3), 8);
        Due.is("count(7)", duel.count(7), 0);
        Due.is("account(8)", duel.account(8), 1);
        Due.is("a term more", duel.lay(1, 0), 0);
        Due.is("P would be 1", duel.lay(-7, 3), 0);
        Due.is("degree", duel.degree(), 0);
        Due.is("P would be 0", duel.lay(-1, 0), 8);
        duel = new RootDuel();
        duel.lay(4, 1);
        Due.is("6 ahead of 8", duel.lay(-4, 1), 6);
        duel.pass();
        duel.pass();
        Due.is("1 ahead of 6", duel.lay(-4, 1), 1);
        Due.is("1", duel.lay(1, 2), 1);
        Due.is("account(1)", duel.account(1), 2);
    }

    private static void passes() {
        RootDuel duel = new RootDuel();
        Due.is("pass", duel.pass(), 0);
        Due.is("count(12)", duel.count(12), 1);
        Due.is("count(8)", duel.count(8), 1);
        duel.lay(1, 1);
        Due.is("pass", duel.pass(), 0);
        Due.is("count(9)", duel.count(9), 0);
        Due.is("claim", duel.claim(0, 1, 1, true, 1), 0);
        Due.is("pass", duel.pass(), 0);
        Due.is("two passes", duel.count(9), 1);
        Due.is("pass at the end", duel.pass(), 1);
        Due.is("account(1)", duel.account(1), 1);
        Due.is("account(0)", duel.account(0), 5);
        Due.is("count(12)", duel.count(12), 3);
    }

    private static void ends() {
        RootDuel duel = Due.with("turns 60;bar 1;");
        for (int turn = 0; turn < 60; turn++) {
            Due.is("count(9) in " + turn, duel.count(9), 0);
            Due.is("lay in " + turn, duel.lay(turn % 4 < 2 ? 1 : -1, turn % 2 + 1), 0);
            if (turn == 1) {
                Due.is("count(10)", duel.count(10), 1);
            }
            if (turn % 4 == 1) {
                duel.undo();
                duel.lay(2, 3);
                duel.undo();
                duel.lay(1, 2);
            }
            if (turn == 0) {
                duel.undo();
                duel.lay(2, 1);
            }
        }
        Due.is("count(9) at the end", duel.count(9), 1);
        Due.is("count(7)", duel.count(7), 60);
        duel = Due.with("powers 2;bar 2;");
        duel.lay(1, 0);
        Due.is("one barred", duel.count(9), 0);
        duel.lay(1, 1);
        Due.is("all barred", duel.count(9), 1);
        duel = Due.with("powers 2;bar 1;");
        duel.lay(1, 0);
        duel.lay(1, 1);
        Due.is("not barred at once", duel.count(9), 0);
        duel = Due.with("goal 2 5;turns 2;bar 0;powers 3;start 1 2;start -1 0;");
        duel.pass();
        duel.pass();
        Due.is("passes with roots", duel.count(15), RootDuel.NONE);
        Due.is("over by passes", duel.count(9), 1);
    }

    private static void why() {
        RootDuel duel = Due.with("start 3 0;");
        Due.is("8", duel.why(-3, 0), 8);
        Due.is("0", duel.why(-2, 0), 0);
        duel.lay(1, 0);
        Due.is("6", duel.why(9, 0), 6);
        Due.is("account(6)", duel.account(6), 0);
        Due.is("account(8)", duel.account(8), 0);
        Due.is("account(0)", duel.account(0), 1);
        duel.pass();
        duel.pass();
        Due.is("1", duel.why(9, 0), 1);
        Due.is("account(1)", duel.account(1), 0);
    }

    private static void best() {
        RootDuel duel = new RootDuel();
        Due.is("above 0 everywhere", duel.best(), 11);
        Due.is("count(7)", duel.count(7), 0);
        Due.is("account(0)", duel.account(0), 0);
        duel.pass();
        Due.is("below 0 everywhere", duel.best(), 1);
        duel.lay(-1, 0);
        Due.is("behind a bar", duel.best(), 52);
        duel.pass();
        duel.pass();
        Due.is("over", duel.best(), RootDuel.NONE);
        duel = Due.with("powers 2;bar 2;turns 60;");
        duel.pass();
        duel.lay(1, 1);
        duel.save(0);
        Due.is("one power is left", duel.best(), 16);
        duel = Due.with("powers 2;bar 1;start -30 1;start -30 0;reach 1;");
        Due.is("a lot against it", duel.best(), 11);
        Due.is("lead behind the best", duel.behind(1, 0, 1) - duel.behind(1, 0, 2), 1 - 2);
    }

    private static void bestOfSeveral() {
        RootDuel duel = Due.with("reach 1;start 5 0;");
        Due.is("all are the same", duel.best(), 6);
        duel.claim(-20, 20, 1, false, 9);
        Due.is("a claim", duel.best(), 20 + 10 - 4);
        Due.is("the score behind it", duel.behind(1, 1, 1), 12);
        RootDuel other = Due.with("reach 2;purse 40;");
        other.claim(-5, 5, 4, true, 9);
        other.lay(3, 0);
        Due.is("best against the claim", other.best(), 40 + 10 - 9);
        Due.is("lead", other.behind(-5, 2, 2) - other.behind(-5, 2, 1), 4 - (1 - 9));
    }

    private static void bestWithBonus() {
        RootDuel duel = Due.with("goal 2 20;start 1 2;reach 4;");
        Due.is("roots for the bonus", duel.best(), 20 + 10 - 1);
        Due.is("score", duel.behind(-1, 0, 1), 26);
        Due.is("score of the other one", duel.behind(-1, 0, 2), 1);
        duel.pass();
        Due.is("the other one", duel.best(), 80 + 10 - 9);
        RootDuel poor = Due.with("goal 2 0;start 1 2;reach 4;");
        Due.is("no bonus", poor.best(), 11);
    }

    private static void behind() {
        RootDuel duel = Due.with("start 1 2;start -4 0;reach 4;");
        duel.claim(-3, 3, 2, false, 5);
        Due.is("all roots", duel.behind(4, 0, 0), 1);
        Due.is("score of 0", duel.behind(4, 0, 1), 8 - 5);
        Due.is("score of 1", duel.behind(4, 0, 2), 0);
        Due.is("no roots", duel.behind(5, 0, 0), 0);
        Due.is("two roots", duel.behind(3, 0, 0), 2);
        Due.is("score of 0", duel.behind(3, 0, 1), 6 + 5);
        Due.is("score of 1", duel.behind(3, 0, 2), 1);
        Due.is("not over", duel.behind(3, 0, 3), 0);
        Due.is("count(7)", duel.count(7), 0);
        Due.is("count(14)", duel.count(14), 1);
        Due.isText("write", Due.polynomialOf(duel), "x^2-4");
        Due.is("account(0)", duel.account(0), 1);
        Due.is("count(13)", duel.count(13), 1);
        duel.pass();
        duel.pass();
        Due.throwsState("over", () -> duel.behind(1, 0, 0));
        RootDuel zero = Due.with("start 2 1;start 29 2;");
        Due.throwsState("7", () -> zero.behind(2, 2, 0));
        RootDuel one = Due.with("start 2 1;");
        Due.throwsState("8", () -> one.behind(-2, 1, 0));
        Due.is("0 at the power 1", one.behind(-2, 0, 0), 1);
    }

    private static void behindEnds() {
        RootDuel duel = Due.with("turns 2;");
        Due.is("a turn is left", duel.behind(1, 0, 3), 0);
        duel.pass();
        Due.is("the last turn", duel.behind(1, 0, 3), 1);
        duel = Due.with("goal 1 7;");
        Due.is("GOAL not reached", duel.behind(1, 0, 3), 0);
        Due.is("GOAL reached", duel.behind(1, 1, 3), 1);
        Due.is("with the bonus", duel.behind(1, 1, 1), 12);
        Due.is("without it", duel.behind(1, 1, 2), 5);
        duel.pass();
        Due.is("the bonus of the other one", duel.behind(1, 1, 2), 12);
        duel = Due.with("powers 2;bar 0;");
        Due.is("a power is left", duel.behind(1, 1, 3), 0);
        duel.lay(1, 1);
        Due.is("all barred", duel.behind(1, 0, 3), 1);
        Due.is("count(9)", duel.count(9), 0);
        duel = Due.with("powers 2;bar 1;");
        duel.lay(1, 1);
        Due.is("just one barred", duel.behind(1, 0, 3), 0);
        duel.pass();
        Due.is("a term behind a pass", duel.behind(1, 0, 3), 0);
    }
}
