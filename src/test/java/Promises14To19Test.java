/** Acts of the player whose turn it is, and what is told ahead of them. */
public final class Promises14To19Test {
    private static final int NONE = RootDuel.NONE;
    private static final int[] NO_COEFFICIENTS = {0, 10, -10, Integer.MIN_VALUE, Integer.MAX_VALUE};
    private static final int[] NO_POWERS = {-1, 3, 4, 5, Integer.MIN_VALUE, Integer.MAX_VALUE};

    public static void main(String[] args) {
        Due.all(Promises14To19Test.class);
    }

    // ---- promise 14: arguments

    private static void promise14ArgumentsOutOfRange() {
        int[][] wrong = {
            {-21, 0, 0, 1}, {20, 21, 0, 1}, {20, 20, 0, 1}, {Integer.MIN_VALUE, 0, 0, 1}, {Integer.MAX_VALUE, 20, 0, 1},
            {0, 21, 0, 1}, {3, 3, 0, 1}, {3, 2, 0, 1}, {-20, -21, 0, 1}, {19, 19, 0, 1}, {0, Integer.MAX_VALUE, 0, 1},
            {0, Integer.MIN_VALUE, 0, 1}, {Integer.MAX_VALUE, Integer.MIN_VALUE, 0, 1},
            {0, 1, -1, 1}, {0, 1, 5, 1}, {0, 1, Integer.MAX_VALUE, 1}, {0, 1, Integer.MIN_VALUE, 1},
            {0, 1, 0, 0}, {0, 1, 0, 10}, {0, 1, 0, -1}, {0, 1, 0, Integer.MAX_VALUE}, {0, 1, 0, Integer.MIN_VALUE},
        };
        RootDuel duel = new RootDuel();
        for (int[] one : wrong) {
            String call = "claim(" + one[0] + ", " + one[1] + ", " + one[2] + ", _, " + one[3] + ")";
            Due.throwsArgument(call, () -> duel.claim(one[0], one[1], one[2], true, one[3]));
            Due.throwsArgument(call, () -> duel.claim(one[0], one[1], one[2], false, one[3]));
        }
        Due.is("count(14)", duel.count(14), 0);
        Due.is("account(0)", duel.account(0), 0);
    }

    private static void promise14ArgumentsAtTheEdges() {
        int[][] good = {{-20, -19, 0, 1}, {-20, 20, 0, 1}, {19, 20, 4, 9}, {0, 1, 4, 9}, {-1, 0, 0, 9}};
        for (int[] one : good) {
            RootDuel duel = new RootDuel();
            Due.is("claim from " + one[0], duel.claim(one[0], one[1], one[2], false, one[3]), 0);
            Due.is("a", duel.claimOf(0, 0, 0), one[0]);
            Due.is("b", duel.claimOf(0, 0, 1), one[1]);
            Due.is("roots", duel.claimOf(0, 0, 2), one[2]);
            Due.is("stake", duel.claimOf(0, 0, 4), one[3]);
        }
    }

    private static void promise14ExceptionAheadOfEachReason() {
        RootDuel over = Due.played("", "pass;pass;");
        Due.throwsArgument("when it is over", () -> over.claim(0, 0, 0, true, 1));
        RootDuel claimed = Due.played("", "claim least 0 1 0 1;");
        Due.throwsArgument("behind a claim", () -> claimed.claim(0, 1, 5, true, 1));
        Due.is("account(2)", claimed.account(2), 0);
    }

    private static void promise14ClaimIsMade() {
        RootDuel duel = new RootDuel();
        Due.is("claim", duel.claim(-3, 4, 2, true, 5), 0);
        int[] want = {-3, 4, 2, 1, 5, 0, 0};
        for (int what = 0; what <= 6; what++) {
            Due.is("claimOf(0, 0, " + what + ")", duel.claimOf(0, 0, what), want[what]);
        }
        Due.is("the turn goes on", duel.count(7), 0);
        Due.is("the same player", duel.count(8), 0);
        duel.lay(1, 1);
        Due.is("claim of the other one", duel.claim(-3, 4, 2, false, 5), 0);
        Due.is("claimOf(1, 0, 3)", duel.claimOf(1, 0, 3), 0);
        Due.is("claimOf(1, 0, 6)", duel.claimOf(1, 0, 6), 1);
        Due.is("player(0, 4)", duel.player(0, 4), 1);
    }

    // ---- promise 14: reasons

    private static void promise14Reason1() {
        RootDuel duel = Due.played("purse 3;", "claim least 0 1 0 3;pass;pass;");
        Due.is("claim at the end", duel.claim(5, 6, 0, true, 1), 1);
        Due.is("1 ahead of 4 and 5", duel.claim(0, 1, 0, true, 9), 1);
        Due.is("account(1)", duel.account(1), 2);
    }

    private static void promise14Reason1AheadOf3() {
        RootDuel duel = Due.played("purse 40;turns 60;bar 1;", fourClaims() + "pass;pass;");
        Due.is("the turn of the player 0 would come", duel.count(7) % 2, 0);
        Due.is("claim", duel.claim(9, 10, 0, true, 1), 1);
    }

    private static void promise14Reason2() {
        RootDuel duel = Due.played("purse 4;", "claim least 0 4 0 4;");
        Due.is("another interval", duel.claim(8, 9, 0, true, 1), 2);
        Due.is("2 ahead of 4 and 5", duel.claim(0, 4, 0, true, 9), 2);
        Due.is("player(0, 4)", duel.player(0, 4), 1);
        duel.lay(1, 1);
        Due.is("the other one in the next turn", duel.claim(8, 9, 0, true, 1), 0);
    }

    private static void promise14Reason2AheadOf3() {
        RootDuel duel = Due.with("purse 40;turns 60;bar 1;");
        String claims = fourClaims();
        Due.play(duel, claims.substring(0, claims.indexOf("lay", claims.lastIndexOf("claim"))));
        Due.is("player(0, 4)", duel.player(0, 4), 4);
        Due.is("claim", duel.claim(0, 1, 0, true, 9), 2);
    }

    /** Four claims of the player 0, each with a turn of the other one behind it. */
    private static String fourClaims() {
        return "claim least 0 1 0 9;lay 1 1;pass;claim least 1 2 0 9;lay 1 1;pass;"
                + "claim least 2 3 0 9;lay 1 1;pass;claim least 3 4 0 1;lay 1 1;lay 1 2;";
    }

    private static void promise14Reason3() {
        RootDuel duel = Due.played("purse 29;turns 60;bar 1;", fourClaims());
        Due.is("a fifth claim", duel.claim(9, 10, 0, true, 1), 3);
        Due.is("3 ahead of 4", duel.claim(0, 9, 0, true, 1), 3);
        Due.is("3 ahead of 5", duel.claim(9, 10, 0, true, 9), 3);
        Due.is("player(0, 4)", duel.player(0, 4), 4);
        duel.pass();
        Due.is("the other one has none", duel.claim(0, 9, 0, true, 1), 0);
    }

    private static void promise14FourthClaim() {
        RootDuel duel = Due.played("purse 40;turns 60;bar 1;", fourClaims());
        duel.undo();
        duel.undo();
        duel.undo();
        Due.is("player(0, 4)", duel.player(0, 4), 3);
        Due.is("the fourth one", duel.claim(9, 10, 0, true, 1), 0);
        Due.is("claimOf(0, 3, 0)", duel.claimOf(0, 3, 0), 9);
    }

    /** The answer to a claim of the player 0 behind one on the interval from 0 to 4. */
    private static int behindZeroToFour(int a, int b, int stake) {
        RootDuel duel = Due.played("purse 8;", "claim least 0 4 0 4;lay 1 1;pass;");
        return duel.claim(a, b, 0, true, stake);
    }

    private static void promise14Reason4() {
        int[][] over = {{-5, 1}, {3, 5}, {0, 4}, {1, 2}, {-20, 20}, {0, 1}, {3, 4}, {-1, 1}, {0, 20}, {-20, 4}};
        for (int[] one : over) {
            Due.is("from " + one[0] + " to " + one[1], behindZeroToFour(one[0], one[1], 1), 4);
        }
        Due.is("4 ahead of 5", behindZeroToFour(3, 5, 9), 4);
    }

    private static void promise14IntervalsThatTouchDoNotOverlap() {
        int[][] apart = {{-5, 0}, {-1, 0}, {4, 5}, {-20, 0}, {4, 20}, {5, 6}, {-2, -1}};
        for (int[] one : apart) {
            Due.is("from " + one[0] + " to " + one[1], behindZeroToFour(one[0], one[1], 1), 0);
        }
    }

    private static void promise14OverlapsWithEachClaim() {
        String claims = "claim least 0 1 0 1;lay 1 1;pass;claim least 5 6 0 1;lay 1 2;pass;";
        RootDuel duel = Due.played("bar 1;", claims);
        Due.is("the first one", duel.claim(0, 1, 0, true, 1), 4);
        Due.is("the second one", duel.claim(5, 6, 0, true, 1), 4);
        Due.is("between them", duel.claim(1, 5, 0, true, 1), 0);
    }

    private static void promise14OtherPlayersClaimsDoNotCount() {
        RootDuel duel = Due.played("purse 9;", "claim least 0 4 0 9;lay 1 1;");
        Due.is("the same interval, the whole PURSE", duel.claim(0, 4, 0, true, 9), 0);
    }

    private static void promise14Reason5() {
        Due.is("as much as the PURSE", behindZeroToFour(4, 5, 4), 0);
        Due.is("one more", behindZeroToFour(4, 5, 5), 5);
        RootDuel duel = Due.with("purse 1;");
        Due.is("more at once", duel.claim(0, 1, 0, true, 2), 5);
        Due.is("player(0, 4)", duel.player(0, 4), 0);
        Due.is("count(14)", duel.count(14), 0);
        Due.is("as much at once", duel.claim(0, 1, 0, true, 1), 0);
        RootDuel first = Due.played("", "claim least 0 1 0 9;lay 1 1;pass;");
        Due.is("13 with the PURSE as at first", first.claim(1, 2, 0, true, 4), 5);
        Due.is("12 with the PURSE as at first", first.claim(1, 2, 0, true, 3), 0);
    }

    private static void promise14StakesOfClaimsThatAreRightCountToo() {
        RootDuel duel = Due.played("purse 9;bar 1;", "claim least 0 1 0 9;lay 1 1;pass;");
        Due.is("right", duel.claimOf(0, 0, 5), 1);
        Due.is("claim", duel.claim(1, 2, 0, true, 1), 5);
    }

    private static void promise14RefusalChangesNothing() {
        RootDuel duel = Due.played("", "claim least 0 4 0 4;lay 1 1;pass;");
        String state = Due.stateOf(Due.played("", "claim least 0 4 0 4;lay 1 1;pass;"));
        duel.claim(3, 5, 0, true, 1);
        duel.claim(4, 5, 0, true, 9);
        Due.isText("the state", Due.stateOf(duel), state);
        Due.is("count(13)", duel.count(13), 3);
    }

    // ---- promise 15

    private static void promise15NoSuchPower() {
        RootDuel duel = Due.with("powers 3;");
        for (int power : NO_POWERS) {
            Due.throwsIndex("lay(1, " + power + ")", () -> duel.lay(1, power));
            Due.throwsIndex("lay(0, " + power + ")", () -> duel.lay(0, power));
        }
        Due.is("the last one", duel.lay(1, 2), 0);
        Due.is("account(0)", duel.account(0), 1);
    }

    private static void promise15CoefficientOutOfRange() {
        RootDuel duel = Due.with("powers 3;");
        for (int coefficient : NO_COEFFICIENTS) {
            Due.throwsArgument("lay(" + coefficient + ", 2)", () -> duel.lay(coefficient, 2));
        }
        Due.is("the greatest", duel.lay(9, 2), 0);
        Due.is("the least", duel.lay(-9, 1), 0);
        Due.isText("write()", Due.polynomialOf(duel), "9x^2-9x");
        RootDuel over = Due.played("", "pass;pass;");
        Due.throwsArgument("lay(0, 1) when it is over", () -> over.lay(0, 1));
        Due.throwsIndex("lay(1, 5) when it is over", () -> over.lay(1, 5));
    }

    private static void promise15TermIsLaid() {
        RootDuel duel = Due.with("start 4 3;");
        Due.is("lay", duel.lay(-6, 3), 0);
        Due.is("power(3, 0)", duel.power(3, 0), -2);
        Due.is("count(7)", duel.count(7), 1);
        Due.is("count(8)", duel.count(8), 1);
        Due.is("count(11)", duel.count(11), 1);
        Due.is("account(0)", duel.account(0), 1);
    }

    private static void promise15Reason1() {
        RootDuel duel = Due.played("start 2 0;start 30 1;", "pass;pass;");
        Due.is("lay", duel.lay(1, 2), 1);
        Due.is("1 ahead of 7", duel.lay(1, 1), 1);
        RootDuel zero = Due.played("start 2 0;", "pass;pass;");
        Due.is("1 ahead of 8", zero.lay(-2, 0), 1);
        RootDuel barred = Due.played("bar 5;", "lay 1 0;pass;pass;");
        Due.is("1 ahead of 6", barred.lay(1, 0), 1);
        Due.is("account(1)", barred.account(1), 1);
    }

    private static void promise15Reason6() {
        RootDuel duel = Due.played("start 30 1;", "lay -1 1;");
        Due.is("barred", duel.lay(1, 1), 6);
        Due.is("6 ahead of 7", duel.lay(2, 1), 6);
        RootDuel zero = Due.played("", "lay 4 1;");
        Due.is("6 ahead of 8", zero.lay(-4, 1), 6);
        Due.is("another power", zero.lay(-4, 2), 0);
    }

    private static void promise15Reason7() {
        Due.is("30", Due.with("start 25 3;").lay(5, 3), 0);
        Due.is("31", Due.with("start 25 3;").lay(6, 3), 7);
        Due.is("-30", Due.with("start -25 2;").lay(-5, 2), 0);
        Due.is("-31", Due.with("start -25 2;").lay(-6, 2), 7);
        Due.is("39", Due.with("start 30 0;").lay(9, 0), 7);
        Due.is("-39", Due.with("start -30 4;").lay(-9, 4), 7);
        RootDuel duel = Due.with("start 30 0;");
        duel.lay(1, 0);
        Due.is("power(0, 0)", duel.power(0, 0), 30);
        Due.is("count(7)", duel.count(7), 0);
        Due.is("29 again", duel.lay(-1, 0), 0);
    }

    private static void promise15Reason8() {
        for (int power = 0; power < 5; power++) {
            RootDuel duel = Due.with("start 7 " + power + ";");
            Due.is("P would be 0", duel.lay(-7, power), 8);
            Due.is("count(7)", duel.count(7), 0);
            Due.is("power(" + power + ", 0)", duel.power(power, 0), 7);
            Due.is("account(8)", duel.account(8), 1);
            Due.is("a term more", duel.lay(1, (power + 1) % 5), 0);
            Due.is("P is another one", duel.lay(-7, power), 0);
            Due.is("power(" + power + ", 0)", duel.power(power, 0), 0);
        }
    }

    private static void promise15RefusalChangesNothing() {
        String setup = "start 25 3;";
        String script = "claim least 0 4 0 4;lay 1 1;";
        RootDuel duel = Due.played(setup, script);
        duel.lay(6, 3);
        duel.lay(1, 1);
        Due.isText("the state", Due.stateOf(duel), Due.stateOf(Due.played(setup, script)));
        Due.is("count(13)", duel.count(13), 2);
    }

    // ---- promise 16

    private static void promise16Passes() {
        RootDuel duel = new RootDuel();
        Due.is("pass as the first turn", duel.pass(), 0);
        Due.is("count(7)", duel.count(7), 1);
        Due.is("count(8)", duel.count(8), 1);
        Due.is("count(12)", duel.count(12), 1);
        Due.is("count(10)", duel.count(10), 0);
        Due.is("a claim of the other one", duel.claim(0, 1, 0, true, 1), 0);
        Due.is("pass behind a claim", duel.pass(), 0);
        Due.is("count(9)", duel.count(9), 1);
        Due.is("account(0)", duel.account(0), 3);
    }

    private static void promise16Reason1() {
        String[] setups = {"turns 1;", "goal 1 1;", "powers 2;bar 0;", ""};
        String[] scripts = {"lay 1 1;", "lay 1 1;", "lay 1 0;lay 1 1;", "pass;pass;"};
        for (int i = 0; i < setups.length; i++) {
            RootDuel duel = Due.played(setups[i], scripts[i]);
            int turns = duel.count(7);
            Due.is("pass behind " + scripts[i], duel.pass(), 1);
            Due.is("count(7)", duel.count(7), turns);
            Due.is("account(1)", duel.account(1), 1);
        }
    }

    private static void promise16WithAllElseBarred() {
        RootDuel duel = Due.played("powers 2;bar 1;", "lay 1 0;");
        Due.is("pass", duel.pass(), 0);
        Due.is("count(9)", duel.count(9), 0);
    }

    // ---- promise 17

    private static void promise17NoSuchPower() {
        RootDuel duel = Due.with("powers 3;");
        for (int power : NO_POWERS) {
            Due.throwsIndex("why(1, " + power + ")", () -> duel.why(1, power));
            Due.throwsIndex("why(0, " + power + ")", () -> duel.why(0, power));
        }
        Due.is("the last one", duel.why(1, 2), 0);
    }

    private static void promise17CoefficientOutOfRange() {
        RootDuel duel = Due.with("powers 3;");
        for (int coefficient : NO_COEFFICIENTS) {
            Due.throwsArgument("why(" + coefficient + ", 2)", () -> duel.why(coefficient, 2));
        }
        Due.is("the greatest", duel.why(9, 2), 0);
        Due.is("the least", duel.why(-9, 2), 0);
        RootDuel over = Due.played("", "pass;pass;");
        Due.throwsArgument("why(0, 1) when it is over", () -> over.why(0, 1));
    }

    private static void promise17EachReason() {
        Due.is("0", new RootDuel().why(1, 0), 0);
        Due.is("1", Due.played("", "pass;pass;").why(1, 0), 1);
        Due.is("6", Due.played("", "lay 1 0;").why(1, 0), 6);
        Due.is("7", Due.with("start 29 0;").why(2, 0), 7);
        Due.is("7 below", Due.with("start -29 0;").why(-2, 0), 7);
        Due.is("30", Due.with("start 29 0;").why(1, 0), 0);
        Due.is("-30", Due.with("start -29 0;").why(-1, 0), 0);
        Due.is("8", Due.with("start 3 2;").why(-3, 2), 8);
        Due.is("1 ahead of 6", Due.played("bar 5;", "lay 1 0;pass;pass;").why(1, 0), 1);
        Due.is("1 ahead of 8", Due.played("start 3 2;", "pass;pass;").why(-3, 2), 1);
        Due.is("6 ahead of 7", Due.played("start 30 1;", "lay -1 1;").why(2, 1), 6);
        Due.is("6 ahead of 8", Due.played("", "lay 4 1;").why(-4, 1), 6);
    }

    private static void promise17NothingIsCounted() {
        RootDuel duel = Due.played("start 29 0;", "lay 1 1;");
        duel.why(1, 1);
        duel.why(2, 0);
        duel.why(1, 2);
        for (int what = 0; what <= 8; what++) {
            Due.is("account(" + what + ")", duel.account(what), what == 0 ? 1 : 0);
        }
        Due.isText("the state", Due.stateOf(duel), Due.stateOf(Due.played("start 29 0;", "lay 1 1;")));
    }

    // ---- promise 18

    private static int told(int coefficient, int power) {
        return 20 * power + coefficient + 10;
    }

    private static void promise18NoneIfItIsOver() {
        Due.is("two passes", Due.played("", "pass;pass;").best(), NONE);
        Due.is("TURNS", Due.played("turns 1;", "pass;").best(), NONE);
        Due.is("all barred", Due.played("powers 2;bar 0;", "lay 1 0;lay 1 1;").best(), NONE);
        Due.is("roots", Due.played("goal 1 1;", "lay 1 1;").best(), NONE);
    }

    private static void promise18BestOfThePlayer() {
        RootDuel duel = new RootDuel();
        Due.is("above 0 everywhere", duel.best(), told(1, 0));
        duel.pass();
        Due.is("below 0 everywhere", duel.best(), told(-9, 0));
    }

    private static void promise18ScoreLessThatOfTheOtherOne() {
        // x^2+5 is above 0 everywhere, and the claim of the other one is right
        RootDuel duel = Due.played("reach 1;start 5 0;", "pass;claim exactly -20 20 0 9;lay 1 2;");
        // x^2-5x+5 is above 0 at -1, 0 and 1, and has two roots
        Due.is("best", duel.best(), told(-5, 1));
        Due.is("its lead", duel.behind(-5, 1, 1) - duel.behind(-5, 1, 2), 3 + 9);
        Due.is("a claim of the other one", duel.behind(1, 1, 2), 9);
        Due.is("the lead without", duel.behind(1, 1, 1) - duel.behind(1, 1, 2), 3 - 9);
    }

    private static void promise18LowestPowerThenLeastCoefficient() {
        Due.is("all are the same", Due.with("reach 1;start 10 0;").best(), told(-9, 0));
        Due.is("the least coefficient above 0", Due.with("reach 1;start 5 0;").best(), told(-4, 0));
        // x^0 is barred behind its term, and 11 + cx is above 0 at -1, 0 and 1 for each c
        Due.is("the lowest power", Due.played("reach 1;start 10 0;", "lay 1 0;pass;").best(), told(-9, 1));
    }

    private static void promise18GreatestAndLeastCoefficient() {
        Due.is("9", Due.with("powers 2;reach 1;start -8 0;").best(), told(9, 0));
        Due.is("-9", Due.played("powers 2;reach 1;start 8 0;", "pass;").best(), told(-9, 0));
        RootDuel last = Due.played("reach 2;start -8 4;start -1 0;bar 4;", "pass;lay -9 0;lay -1 1;lay -1 2;lay -1 3;");
        Due.is("the turn of 1", last.count(8), 1);
        Due.is("the last power", last.best(), told(-9, 4));
        last.pass();
        // just 9x^4 brings P above 0 somewhere: at -2
        Due.is("9 on the last power", last.best(), told(9, 4));
    }

    private static void promise18OfTheContestAsItIsNow() {
        String claims = "claim exactly -20 20 1 9;lay 1 2;claim least -20 20 2 9;";
        RootDuel duel = Due.played("reach 1;start 5 0;", claims);
        int before = duel.best();
        duel.lay(-9, 1);
        duel.best();
        duel.undo();
        Due.is("behind undo", duel.best(), before);
        duel.save(0);
        duel.load();
        Due.is("of a new contest", duel.best(), told(1, 0));
        duel.restore(0);
        Due.is("restored", duel.best(), before);
    }

    private static void promise18BonusCounts() {
        RootDuel duel = Due.with("goal 2 20;start 1 2;reach 4;");
        Due.is("roots for the BONUS", duel.best(), told(-1, 1));
        duel.pass();
        Due.is("the other one", duel.best(), told(-9, 4));
        Due.is("a BONUS of 0", Due.with("goal 2 0;start 1 2;reach 4;").best(), told(1, 0));
    }

    private static void promise18JustTermsThatWouldBeLaid() {
        RootDuel barred = Due.played("reach 1;bar 2;", "lay 1 0;pass;");
        Due.is("barred", barred.why(1, 0), 6);
        Due.is("best behind a bar", barred.best(), told(1, 2));
        RootDuel zero = Due.with("powers 2;reach 1;start -3 0;");
        Due.is("above 0", zero.best(), told(4, 0));
        RootDuel low = Due.played("powers 2;reach 1;start 30 0;start -30 1;bar 1;", "pass;");
        Due.is("the least coefficient", low.best(), told(-9, 0));
        RootDuel least = Due.played("powers 2;reach 1;start -30 0;start 1 1;bar 1;", "pass;");
        Due.is("-30 is the least", least.why(-1, 0), 7);
        Due.is("best at -30", least.best(), told(1, 0));
        RootDuel only = Due.with("powers 2;reach 1;start 9 0;");
        only.pass();
        Due.is("P would not be 0", only.why(-9, 0), 8);
        Due.is("best without P = 0", only.best(), told(-9, 1));
    }

    private static void promise18NothingChanges() {
        String setup = "goal 2 5;start 1 2;bar 2;";
        String script = "claim least -1 1 1 3;lay 2 0;";
        RootDuel duel = Due.played(setup, script);
        duel.best();
        Due.isText("the state", Due.stateOf(duel), Due.stateOf(Due.played(setup, script)));
        Due.is("account(0)", duel.account(0), 2);
        Due.is("count(13)", duel.count(13), 2);
    }

    // ---- promise 19

    private static void promise19NoSuchPower() {
        RootDuel duel = Due.with("powers 3;");
        for (int power : NO_POWERS) {
            Due.throwsIndex("behind(1, " + power + ", 0)", () -> duel.behind(1, power, 0));
            Due.throwsIndex("behind(0, " + power + ", 4)", () -> duel.behind(0, power, 4));
        }
        Due.is("the last one", duel.behind(1, 2, 0), 1);
    }

    private static void promise19CoefficientOrWhatOutOfRange() {
        RootDuel duel = Due.played("powers 3;", "lay 1 1;");
        for (int coefficient : NO_COEFFICIENTS) {
            Due.throwsArgument("behind(" + coefficient + ", 2, 0)", () -> duel.behind(coefficient, 2, 0));
            Due.throwsArgument("behind(" + coefficient + ", 1, 0) barred", () -> duel.behind(coefficient, 1, 0));
        }
        int[] whats = {-1, 4, Integer.MIN_VALUE, Integer.MAX_VALUE};
        for (int what : whats) {
            Due.throwsArgument("behind(1, 2, " + what + ")", () -> duel.behind(1, 2, what));
            Due.throwsArgument("behind(1, 1, " + what + ") barred", () -> duel.behind(1, 1, what));
        }
        Due.is("behind(9, 2, 3)", duel.behind(9, 2, 3), 0);
        Due.is("behind(-9, 2, 3)", duel.behind(-9, 2, 3), 0);
    }

    private static void promise19WhyIsNot0() {
        RootDuel over = Due.played("", "pass;pass;");
        Due.throwsState("1", () -> over.behind(1, 0, 0));
        RootDuel barred = Due.played("", "lay 1 0;");
        Due.throwsState("6", () -> barred.behind(1, 0, 1));
        RootDuel great = Due.with("start 29 2;");
        Due.throwsState("7", () -> great.behind(2, 2, 2));
        Due.is("30", great.behind(1, 2, 3), 0);
        RootDuel zero = Due.with("start 2 1;");
        Due.throwsState("8", () -> zero.behind(-2, 1, 3));
    }

    private static void promise19Roots() {
        RootDuel duel = Due.with("start 1 2;start -4 0;");
        Due.is("one", duel.behind(4, 0, 0), 1);
        Due.is("none", duel.behind(5, 0, 0), 0);
        Due.is("two", duel.behind(3, 0, 0), 2);
        Due.is("three", Due.with("start -4 2;").behind(1, 4, 0), 3);
        Due.is("four", Due.with("start -5 2;start 4 0;").behind(1, 4, 0), 4);
        Due.is("outside of the intervals of claims", Due.with("start 30 0;").behind(1, 1, 0), 1);
    }

    private static void promise19Scores() {
        RootDuel duel = Due.played("start 1 2;start -4 0;reach 4;", "claim exactly -3 3 2 5;");
        Due.is("the score of 0, claim not right", duel.behind(4, 0, 1), 8 - 5);
        Due.is("the score of 1", duel.behind(4, 0, 2), 0);
        Due.is("the score of 0, claim right", duel.behind(3, 0, 1), 6 + 5);
        Due.is("the score of 1", duel.behind(3, 0, 2), 1);
        duel.pass();
        Due.is("the score of 0 in the turn of 1", duel.behind(3, 0, 1), 6 + 5);
    }

    private static void promise19BonusCounts() {
        RootDuel duel = Due.with("goal 1 7;");
        Due.is("with it", duel.behind(1, 1, 1), 5 + 7);
        Due.is("the other one", duel.behind(1, 1, 2), 5);
        Due.is("without it", duel.behind(1, 2, 1) - duel.behind(1, 0, 1), 10 + 7 - 11);
        duel.pass();
        Due.is("the BONUS of 1", duel.behind(1, 1, 2), 5 + 7);
        Due.is("the score of 0", duel.behind(1, 1, 1), 5);
    }

    private static void promise19Over() {
        RootDuel duel = Due.with("turns 2;");
        Due.is("a turn is left", duel.behind(1, 0, 3), 0);
        duel.pass();
        Due.is("the last turn", duel.behind(1, 0, 3), 1);
        Due.is("GOAL not reached", Due.with("goal 1 7;").behind(1, 0, 3), 0);
        Due.is("GOAL reached", Due.with("goal 1 7;").behind(1, 1, 3), 1);
        RootDuel two = Due.with("powers 2;bar 0;");
        Due.is("a power is left", two.behind(1, 1, 3), 0);
        two.lay(1, 1);
        Due.is("all barred", two.behind(1, 0, 3), 1);
        Due.is("not all barred", Due.played("powers 2;bar 1;", "lay 1 1;").behind(1, 0, 3), 0);
        Due.is("a term behind a pass", Due.played("", "pass;").behind(1, 0, 3), 0);
    }

    private static void promise19NothingChanges() {
        String setup = "goal 2 5;start 1 2;bar 2;";
        String script = "claim least -1 1 1 3;lay 2 0;";
        RootDuel duel = Due.played(setup, script);
        for (int what = 0; what <= 3; what++) {
            duel.behind(-9, 1, what);
        }
        Due.isText("the state", Due.stateOf(duel), Due.stateOf(Due.played(setup, script)));
        Due.is("account(0)", duel.account(0), 2);
        Due.is("count(13)", duel.count(13), 2);
    }
}
