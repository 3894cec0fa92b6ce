/** What is told of the contest: counts, powers, claims, players, the winner, accounts. */
public final class Promises08To13Test {
    private static final int NONE = RootDuel.NONE;

    public static void main(String[] args) {
        Due.all(Promises08To13Test.class);
    }

    private static void expectCounts(RootDuel duel, String when, int... want) {
        for (int i = 0; i < want.length; i++) {
            Due.is("count(" + (7 + i) + ") " + when, duel.count(7 + i), want[i]);
        }
    }

    // ---- promise 8: each count

    private static void promise8WhatOutOfRange() {
        RootDuel duel = new RootDuel();
        int[] whats = {-1, 16, Integer.MIN_VALUE, Integer.MAX_VALUE};
        for (int what : whats) {
            Due.throwsArgument("count(" + what + ")", () -> duel.count(what));
        }
        Due.is("count(0), the least what", duel.count(0), 5);
        Due.is("count(15), the greatest what", duel.count(15), NONE);
    }

    private static void promise8CountsOfARun() {
        RootDuel duel = Due.with("turns 4;bar 1;");
        duel.claim(0, 1, 0, true, 1);
        expectCounts(duel, "behind a claim", 0, 0, 0, 0, 0, 0, 1, 1, NONE);
        duel.lay(1, 3);
        expectCounts(duel, "behind a term", 1, 1, 0, 1, 1, 0, 2, 0, NONE);
        duel.pass();
        expectCounts(duel, "behind a pass", 2, 0, 0, 0, 1, 1, 3, 0, NONE);
        duel.lay(-2, 3);
        duel.claim(0, 1, 0, true, 1);
        expectCounts(duel, "behind a claim of 1", 3, 1, 0, 1, 2, 1, 5, 1, NONE);
        duel.lay(1, 0);
        expectCounts(duel, "at the end", 4, NONE, 1, 1, 3, 1, 6, 0, NONE);
        duel.lay(1, 1);
        expectCounts(duel, "behind a refusal", 4, NONE, 1, 1, 3, 1, 6, 0, NONE);
    }

    private static void promise8PlayersInTurn() {
        RootDuel duel = Due.with("turns 60;bar 1;");
        for (int turn = 0; turn < 12; turn++) {
            Due.is("count(8) in the turn " + turn, duel.count(8), turn % 2);
            if (turn % 3 == 2) {
                duel.pass();
            } else {
                duel.lay(1, turn % 3);
            }
        }
    }

    private static void promise8ClaimEndsNoTurn() {
        RootDuel duel = Due.played("", "lay 1 1;claim least 0 1 1 1;");
        Due.is("count(7)", duel.count(7), 1);
        Due.is("count(8)", duel.count(8), 1);
        Due.is("count(14)", duel.count(14), 1);
    }

    private static void promise8ActsThatCanBeUndone() {
        RootDuel duel = Due.with("turns 60;bar 1;");
        for (int acts = 1; acts <= 14; acts++) {
            duel.lay(1, acts % 3);
            Due.is("count(13) behind " + acts, duel.count(13), Math.min(acts, 12));
        }
        duel.lay(1, 14 % 3);
        Due.is("count(13) behind a refusal", duel.count(13), 12);
        duel.undo();
        Due.is("count(13) behind undo", duel.count(13), 11);
    }

    private static void promise8UndoneTurnsAreNotCounted() {
        RootDuel duel = Due.played("", "lay 1 1;pass;lay 1 2;");
        duel.undo();
        expectCounts(duel, "behind undo", 2, 0, 0, 1, 1, 1, 2, 0, NONE);
        duel.undo();
        expectCounts(duel, "behind undo of a pass", 1, 1, 0, 1, 1, 0, 1, 0, NONE);
    }

    private static void promise8ClaimInThisTurn() {
        RootDuel duel = Due.played("", "claim least 0 1 1 1;lay 1 1;");
        Due.is("count(14) in the next turn", duel.count(14), 0);
        duel.pass();
        Due.is("count(14) in the player's next turn", duel.count(14), 0);
        duel.undo();
        duel.undo();
        Due.is("count(14) in that turn again", duel.count(14), 1);
        duel.undo();
        Due.is("count(14) behind undo of the claim", duel.count(14), 0);
        RootDuel over = Due.played("turns 1;", "claim least 0 1 1 1;lay 1 1;");
        Due.is("count(14) when it is over", over.count(14), 0);
    }

    // ---- promise 8: barred powers

    private static void promise8BarredTurns() {
        for (int bar = 1; bar <= 8; bar++) {
            RootDuel duel = Due.with("turns 60;bar " + bar + ";");
            duel.lay(1, 4);
            for (int turn = 1; turn <= bar + 1; turn++) {
                String when = " in the turn " + turn + " with BAR " + bar;
                Due.is("power(4, 1)" + when, duel.power(4, 1), turn <= bar ? 1 : 0);
                Due.is("why(1, 4)" + when, duel.why(1, 4), turn <= bar ? 6 : 0);
                Due.is("the turn" + when, turn % 2 == 1 ? duel.pass() : duel.lay(1, turn / 2 - 1), 0);
            }
        }
    }

    /** With BAR 9, no turn t + 9 can be played: all powers are barred by then. */
    private static void promise8BarredTurnsWithTheGreatestBar() {
        RootDuel duel = Due.played("turns 60;bar 9;", "lay 1 4;pass;lay 1 0;pass;lay 1 1;pass;lay 1 2;pass;");
        Due.is("why(1, 4) in the turn 8", duel.why(1, 4), 6);
        Due.is("count(9) in the turn 8", duel.count(9), 0);
        duel.lay(1, 3);
        Due.is("power(4, 1) as in the turn 9", duel.power(4, 1), 1);
        Due.is("count(10)", duel.count(10), 5);
        Due.is("count(9)", duel.count(9), 1);
    }

    private static void promise8BarredCountWithEachBar() {
        int[] want = {1, 2, 3, 4};
        for (int bar = 1; bar <= 4; bar++) {
            RootDuel duel = Due.with("turns 60;bar " + bar + ";");
            for (int turn = 0; turn < 12; turn++) {
                Due.is("lay in the turn " + turn, duel.lay(1, turn % 5), 0);
                Due.is("count(10) behind the turn " + turn, duel.count(10), Math.min(turn + 1, want[bar - 1]));
            }
            Due.is("count(9) with BAR " + bar, duel.count(9), 0);
        }
    }

    private static void promise8BarredForBothPlayers() {
        RootDuel duel = Due.played("bar 2;", "lay 1 1;");
        Due.is("for the other one", duel.lay(1, 1), 6);
        duel.pass();
        Due.is("for the same one", duel.lay(1, 1), 6);
        duel.lay(1, 2);
        Due.is("for none", duel.lay(1, 1), 0);
    }

    private static void promise8BarredAgain() {
        RootDuel duel = Due.played("turns 60;bar 3;", "lay 1 0;lay 1 1;lay 1 2;lay 1 3;");
        Due.is("count(10)", duel.count(10), 3);
        Due.is("lay(1, 0)", duel.lay(1, 0), 0);
        Due.is("why(1, 0)", duel.why(1, 0), 6);
        Due.is("why(1, 1)", duel.why(1, 1), 0);
        Due.is("power(0, 3)", duel.power(0, 3), 4);
    }

    private static void promise8BarredForever() {
        RootDuel duel = Due.with("turns 60;bar 0;");
        duel.pass();
        duel.lay(1, 0);
        for (int power = 1; power <= 3; power++) {
            Due.is("lay(1, 0)", duel.lay(1, 0), 6);
            duel.pass();
            Due.is("lay(1, 0) in the next turn", duel.lay(1, 0), 6);
            duel.lay(1, power);
            Due.is("count(10)", duel.count(10), power + 1);
        }
        duel.pass();
        Due.is("why(1, 0)", duel.why(1, 0), 6);
        Due.is("why(1, 4)", duel.why(1, 4), 0);
    }

    private static void promise8BarredWhenItIsOver() {
        RootDuel duel = Due.played("turns 2;bar 1;", "lay 1 0;lay 1 1;");
        Due.is("over", duel.count(9), 1);
        Due.is("count(10) as in the turn that would come", duel.count(10), 1);
        Due.is("power(0, 1)", duel.power(0, 1), 0);
        Due.is("power(1, 1)", duel.power(1, 1), 1);
        RootDuel passed = Due.played("bar 3;", "lay 1 0;pass;pass;");
        Due.is("count(10) behind two passes", passed.count(10), 1);
        RootDuel longer = Due.played("bar 2;", "lay 1 0;pass;pass;");
        Due.is("count(10) behind two passes with BAR 2", longer.count(10), 0);
    }

    // ---- promise 8: the end

    private static void promise8OverByTurns() {
        int[] turns = {1, 2, 3, 59, 60};
        for (int most : turns) {
            RootDuel duel = Due.with("bar 1;turns " + most + ";");
            for (int turn = 0; turn < most; turn++) {
                Due.is("count(9) ahead of the turn " + turn + " of " + most, duel.count(9), 0);
                Due.is("lay", duel.lay(1, turn % 3), 0);
            }
            Due.is("count(9) behind " + most, duel.count(9), 1);
            Due.is("count(8) behind " + most, duel.count(8), NONE);
            Due.is("count(15) behind " + most, duel.count(15), NONE);
        }
        Due.is("a pass as the last turn", Due.played("turns 2;", "lay 1 1;pass;").count(9), 1);
        RootDuel first = Due.played("bar 1;", "pass;lay 1 1;pass;lay 1 1;pass;lay 1 1;pass;lay 1 1;pass;lay 1 1;pass;");
        Due.is("11 of 12 turns", first.count(9), 0);
        first.lay(1, 1);
        Due.is("12 of 12 turns", first.count(9), 1);
    }

    private static void promise8OverByTwoPasses() {
        Due.is("one pass", Due.played("", "pass;").count(9), 0);
        Due.is("two passes", Due.played("", "pass;pass;").count(9), 1);
        Due.is("a term between", Due.played("", "pass;lay 1 1;pass;").count(9), 0);
        Due.is("behind a term", Due.played("", "lay 1 1;pass;pass;").count(9), 1);
        Due.is("a claim between", Due.played("", "pass;claim least 0 1 1 1;").count(9), 0);
        Due.is("a claim between two passes", Due.played("", "pass;claim least 0 1 1 1;pass;").count(9), 1);
        RootDuel duel = Due.played("", "lay 1 1;pass;");
        duel.undo();
        duel.pass();
        Due.is("an undone pass is none", duel.count(9), 0);
        Due.is("count(15)", Due.played("goal 1 5;start 1 1;", "pass;pass;").count(15), NONE);
    }

    private static void promise8OverWhenAllAreBarred() {
        for (int powers = 2; powers <= 5; powers++) {
            for (int bar = 0; bar <= 9; bar++) {
                RootDuel duel = Due.with("powers " + powers + ";bar " + bar + ";");
                for (int power = 0; power < powers; power++) {
                    Due.is("count(9) ahead of all", duel.count(9), 0);
                    duel.lay(1, power);
                }
                boolean over = bar == 0 || bar >= powers;
                Due.is("count(9) with POWERS " + powers + " and BAR " + bar, duel.count(9), over ? 1 : 0);
                Due.is("count(10)", duel.count(10), over ? powers : bar);
            }
        }
    }

    private static void promise8OverByRoots() {
        Due.is("as many as GOAL", Due.played("goal 2 5;", "lay 1 2;lay -4 0;").count(9), 1);
        Due.is("more", Due.played("goal 1 5;start 1 2;", "lay -4 0;").count(9), 1);
        Due.is("one fewer", Due.played("goal 2 5;", "lay 1 1;").count(9), 0);
        Due.is("four", Due.played("goal 4 5;start 4 0;start -5 2;", "lay 1 4;").count(9), 1);
        Due.is("GOAL 4 with three", Due.played("goal 4 5;start -4 2;", "lay 1 4;").count(9), 0);
        Due.is("GOAL 3 with three", Due.played("goal 3 5;start -4 2;", "lay 1 4;").count(9), 1);
        Due.is("roots count once", Due.played("goal 2 5;", "lay 1 4;").count(9), 0);
        Due.is("GOAL 0", Due.played("goal 0 5;", "lay 1 1;").count(9), 0);
        Due.is("GOAL 0 without roots", Due.played("goal 0 5;", "lay 1 0;").count(15), NONE);
        Due.is("no term", Due.played("goal 1 5;start 1 1;", "pass;").count(9), 0);
        Due.is("not at the beginning", Due.with("goal 1 5;start 1 1;").count(9), 0);
        Due.is("a claim is no term", Due.played("goal 1 5;start 1 1;", "claim least 0 1 1 1;").count(9), 0);
    }

    private static void promise8WhoGotTheBonus() {
        Due.is("the player 0", Due.played("goal 1 5;", "lay 1 1;").count(15), 0);
        Due.is("the player 1", Due.played("goal 1 5;", "pass;lay 1 1;").count(15), 1);
        Due.is("roots of the start", Due.played("goal 1 5;start 1 1;", "pass;lay 1 0;").count(15), 1);
        Due.is("a BONUS of 0", Due.played("goal 1 0;", "lay 1 1;").count(15), 0);
        Due.is("none", Due.played("goal 2 5;turns 1;", "lay 1 1;").count(15), NONE);
    }

    private static void promise8BonusWhenAnotherEndHoldsToo() {
        Due.is("TURNS", Due.played("goal 1 5;turns 2;", "pass;lay 1 1;").count(15), 1);
        Due.is("all barred", Due.played("goal 1 5;powers 2;bar 0;", "lay 1 0;lay 1 1;").count(15), 1);
        Due.is("TURNS and all barred", Due.played("goal 1 5;powers 2;bar 2;turns 2;", "lay 1 0;lay 1 1;").count(15), 1);
    }

    // ---- promise 9

    private static void promise9NoSuchPower() {
        for (int powers = 2; powers <= 5; powers++) {
            RootDuel duel = Due.with("powers " + powers + ";");
            int behind = powers;
            Due.throwsIndex("power(" + behind + ", 0)", () -> duel.power(behind, 0));
            Due.is("power(" + (powers - 1) + ", 0)", duel.power(powers - 1, 0), 0);
        }
        RootDuel duel = new RootDuel();
        int[] none = {-1, 5, Integer.MIN_VALUE, Integer.MAX_VALUE};
        for (int power : none) {
            Due.throwsIndex("power(" + power + ", 0)", () -> duel.power(power, 0));
            Due.throwsIndex("power(" + power + ", 5)", () -> duel.power(power, 5));
            Due.throwsIndex("power(" + power + ", -1)", () -> duel.power(power, -1));
        }
    }

    private static void promise9WhatOutOfRange() {
        RootDuel duel = Due.with("powers 3;");
        int[] whats = {-1, 5, Integer.MIN_VALUE, Integer.MAX_VALUE};
        for (int what : whats) {
            Due.throwsArgument("power(2, " + what + ")", () -> duel.power(2, what));
        }
        Due.is("power(2, 4)", duel.power(2, 4), NONE);
    }

    private static void promise9Terms() {
        RootDuel duel = Due.played("turns 60;bar 1;powers 2;start 7 1;", "pass;lay 3 1;");
        int[] want = {10, 1, 1, 1, 1};
        for (int what = 0; what <= 4; what++) {
            Due.is("power(1, " + what + ")", duel.power(1, what), want[what]);
        }
        Due.play(duel, "lay 1 0;pass;lay -2 1;");
        int[] later = {8, 1, 2, 4, 0};
        for (int what = 0; what <= 4; what++) {
            Due.is("power(1, " + what + ") later", duel.power(1, what), later[what]);
        }
        int[] other = {1, 0, 1, 2, 0};
        for (int what = 0; what <= 4; what++) {
            Due.is("power(0, " + what + ")", duel.power(0, what), other[what]);
        }
    }

    private static void promise9TermsThatWereUndone() {
        RootDuel duel = Due.played("bar 1;", "lay 1 1;pass;lay 2 1;");
        Due.is("power(1, 3)", duel.power(1, 3), 2);
        duel.undo();
        int[] want = {1, 0, 1, 0, 0};
        for (int what = 0; what <= 4; what++) {
            Due.is("power(1, " + what + ") behind undo", duel.power(1, what), want[what]);
        }
        duel.undo();
        Due.is("power(1, 1) in the turn 1", duel.power(1, 1), 1);
        duel.undo();
        int[] none = {0, 0, 0, NONE, NONE};
        for (int what = 0; what <= 4; what++) {
            Due.is("power(1, " + what + ") of nothing", duel.power(1, what), none[what]);
        }
    }

    // ---- promise 10

    private static void promise10NoSuchPlayerOrNegativeIndex() {
        RootDuel duel = Due.played("", "claim least 0 1 1 1;");
        int[] players = {-1, 2, Integer.MIN_VALUE, Integer.MAX_VALUE};
        for (int player : players) {
            Due.throwsIndex("claimOf(" + player + ", 0, 0)", () -> duel.claimOf(player, 0, 0));
            Due.throwsIndex("claimOf(" + player + ", 9, 7)", () -> duel.claimOf(player, 9, 7));
        }
        Due.throwsIndex("claimOf(0, -1, 0)", () -> duel.claimOf(0, -1, 0));
        Due.throwsIndex("claimOf(1, -1, 7)", () -> duel.claimOf(1, -1, 7));
        Due.throwsIndex("claimOf(0, MIN, 0)", () -> duel.claimOf(0, Integer.MIN_VALUE, 0));
    }

    private static void promise10WhatOutOfRange() {
        RootDuel duel = Due.played("", "claim least 0 1 1 1;");
        int[] whats = {-1, 7, Integer.MIN_VALUE, Integer.MAX_VALUE};
        for (int what : whats) {
            Due.throwsArgument("claimOf(0, 0, " + what + ")", () -> duel.claimOf(0, 0, what));
            Due.throwsArgument("claimOf(1, 0, " + what + ") without a claim", () -> duel.claimOf(1, 0, what));
        }
    }

    private static void promise10NotSoManyClaims() {
        RootDuel duel = Due.played("purse 40;turns 60;bar 1;", "claim least 0 1 0 1;lay 1 1;");
        for (int what = 0; what <= 6; what++) {
            Due.is("claimOf(0, 1, " + what + ")", duel.claimOf(0, 1, what), NONE);
            Due.is("claimOf(1, 0, " + what + ")", duel.claimOf(1, 0, what), NONE);
        }
        Due.is("claimOf(0, 4, 0)", duel.claimOf(0, 4, 0), NONE);
        Due.is("claimOf(0, MAX, 0)", duel.claimOf(0, Integer.MAX_VALUE, 0), NONE);
        Due.play(duel, "pass;claim least 1 2 0 1;lay 1 2;pass;claim least 2 3 0 1;lay 1 1;pass;claim least 3 4 0 1;");
        Due.is("claimOf(0, 3, 0)", duel.claimOf(0, 3, 0), 3);
        Due.is("claimOf(0, 4, 0) behind four", duel.claimOf(0, 4, 0), NONE);
        Due.is("claimOf(1, 0, 0)", duel.claimOf(1, 0, 0), NONE);
    }

    private static void promise10Fields() {
        RootDuel duel = Due.played("turns 60;bar 1;start 1 2;start -4 0;purse 40;",
                "claim exactly -3 -2 1 5;pass;claim least -2 2 1 4;lay 1 4;claim exactly -2 2 2 1;");
        int[][] want = {{-3, -2, 1, 0, 5, 0, 0}, {-2, 2, 2, 0, 1, 1, 2}};
        for (int index = 0; index < want.length; index++) {
            for (int what = 0; what <= 6; what++) {
                Due.is("claimOf(0, " + index + ", " + what + ")", duel.claimOf(0, index, what), want[index][what]);
            }
        }
        int[] other = {-2, 2, 1, 1, 4, 1, 1};
        for (int what = 0; what <= 6; what++) {
            Due.is("claimOf(1, 0, " + what + ")", duel.claimOf(1, 0, what), other[what]);
        }
    }

    /** Whether a claim on -3 to 3 is right for a polynomial with this many roots there: 0 to 4. */
    private static int rightWith(int roots, String kind, int number) {
        String[] starts = {"start 1 0;", "start 1 1;", "start 1 2;start -1 0;", "start 1 3;start -1 1;",
            "start 1 4;start -5 2;start 4 0;"};
        return Due.played(starts[roots], "claim " + kind + " -3 3 " + number + " 1;").claimOf(0, 0, 5);
    }

    private static void promise10ExactlySoMany() {
        for (int roots = 0; roots <= 4; roots++) {
            for (int number = 0; number <= 4; number++) {
                Due.is("exactly " + number + " with " + roots, rightWith(roots, "exactly", number), roots == number ? 1 : 0);
            }
        }
    }

    private static void promise10AtLeastSoMany() {
        for (int roots = 0; roots <= 4; roots++) {
            for (int number = 0; number <= 4; number++) {
                Due.is("least " + number + " with " + roots, rightWith(roots, "least", number), roots >= number ? 1 : 0);
            }
        }
    }

    private static void promise10EndsOfTheInterval() {
        String root2 = "start 1 1;start -2 0;";
        Due.is("a root at a", Due.played(root2, "claim exactly 2 3 0 1;").claimOf(0, 0, 5), 1);
        Due.is("a root at b", Due.played(root2, "claim exactly 1 2 1 1;").claimOf(0, 0, 5), 1);
        String root2Twice = "start 1 2;start -4 1;start 4 0;";
        Due.is("twice a root at a", Due.played(root2Twice, "claim exactly 2 3 0 1;").claimOf(0, 0, 5), 1);
        Due.is("twice a root at b", Due.played(root2Twice, "claim exactly 1 2 1 1;").claimOf(0, 0, 5), 1);
    }

    private static void promise10RootsCountOnce() {
        String cubed = "start 1 3;";
        Due.is("exactly 1", Due.played(cubed, "claim exactly -1 1 1 1;").claimOf(0, 0, 5), 1);
        Due.is("least 2", Due.played(cubed, "claim least -1 1 2 1;").claimOf(0, 0, 5), 0);
    }

    private static void promise10NeverRightIfPIs0() {
        for (int number = 0; number <= 4; number++) {
            Due.is("exactly", Due.played("", "claim exactly -20 20 " + number + " 1;").claimOf(0, 0, 5), 0);
            Due.is("least", Due.played("", "claim least -20 20 " + number + " 1;").claimOf(0, 0, 5), 0);
        }
        RootDuel duel = Due.played("", "claim exactly -20 20 0 9;lay 5 0;");
        Due.is("behind a term", duel.claimOf(0, 0, 5), 1);
    }

    private static void promise10ForPAsItIs() {
        RootDuel duel = Due.played("", "claim exactly 0 4 1 3;lay 1 1;");
        Due.is("x", duel.claimOf(0, 0, 5), 0);
        duel.lay(-3, 0);
        Due.is("x-3", duel.claimOf(0, 0, 5), 1);
        duel.undo();
        Due.is("x again", duel.claimOf(0, 0, 5), 0);
    }

    // ---- promise 11

    private static void promise11NoSuchPlayer() {
        RootDuel duel = new RootDuel();
        int[] players = {-1, 2, Integer.MIN_VALUE, Integer.MAX_VALUE};
        for (int player : players) {
            Due.throwsIndex("player(" + player + ", 0)", () -> duel.player(player, 0));
            Due.throwsIndex("player(" + player + ", 8)", () -> duel.player(player, 8));
        }
    }

    private static void promise11WhatOutOfRange() {
        RootDuel duel = new RootDuel();
        int[] whats = {-1, 8, Integer.MIN_VALUE, Integer.MAX_VALUE};
        for (int what : whats) {
            Due.throwsArgument("player(0, " + what + ")", () -> duel.player(0, what));
            Due.throwsArgument("player(1, " + what + ")", () -> duel.player(1, what));
        }
    }

    private static void promise11ContestOfSigns() {
        RootDuel duel = Due.with("reach 3;start 1 3;start -1 1;");
        Due.is("above 0 at 2 and 3", duel.player(0, 1), 2);
        Due.is("below 0 at -3 and -2", duel.player(1, 1), 2);
        duel = Due.with("reach 2;start 1 1;start -2 0;");
        Due.is("none above 0", duel.player(0, 1), 0);
        Due.is("0 at 2 is no point", duel.player(1, 1), 4);
        Due.is("P = 0", new RootDuel().player(0, 1) + new RootDuel().player(1, 1), 0);
    }

    private static void promise11EndsOfTheReach() {
        for (int reach = 1; reach <= 20; reach++) {
            RootDuel duel = Due.with("reach " + reach + ";start 1 1;");
            Due.is("above 0 with REACH " + reach, duel.player(0, 1), reach);
            Due.is("below 0 with REACH " + reach, duel.player(1, 1), reach);
            RootDuel all = Due.with("reach " + reach + ";start -1 0;");
            Due.is("all below 0 with REACH " + reach, all.player(1, 1), 2 * reach + 1);
        }
    }

    private static void promise11Score() {
        RootDuel duel = Due.played("reach 3;start 1 3;start -1 1;", "claim exactly -1 0 1 6;");
        int[] want = {8, 2, 6, 0, 1, 6, 1, 0};
        for (int what = 0; what <= 7; what++) {
            Due.is("player(0, " + what + ")", duel.player(0, what), want[what]);
        }
        duel.lay(1, 0);
        int[] later = {-1, 5, -6, 0, 1, 6, 0, 1};
        for (int what = 0; what <= 7; what++) {
            Due.is("player(0, " + what + ") later", duel.player(0, what), later[what]);
        }
        int[] other = {2, 2, 0, 0, 0, 0, 0, 0};
        for (int what = 0; what <= 7; what++) {
            Due.is("player(1, " + what + ")", duel.player(1, what), other[what]);
        }
    }

    private static void promise11RightAndWrongClaims() {
        RootDuel duel = Due.played("turns 60;bar 1;start 1 2;start -4 0;purse 40;",
                "claim exactly -3 -2 1 5;pass;claim least -2 2 1 4;lay 1 4;claim exactly -2 2 2 1;");
        int[] want = {-4, 0, 2, 6, 1};
        for (int what = 2; what <= 6; what++) {
            Due.is("player(0, " + what + ")", duel.player(0, what), want[what - 2]);
        }
        int[] other = {4, 0, 1, 4, 1};
        for (int what = 2; what <= 6; what++) {
            Due.is("player(1, " + what + ")", duel.player(1, what), other[what - 2]);
        }
        Due.is("a claim on P = 0", Due.played("", "claim least -20 20 0 9;").player(0, 0), -9);
    }

    private static void promise11Bonus() {
        RootDuel duel = Due.played("goal 2 15;bar 1;", "lay 1 2;lay -4 1;");
        Due.is("player(1, 3)", duel.player(1, 3), 15);
        Due.is("player(0, 3)", duel.player(0, 3), 0);
        Due.is("player(0, 0)", duel.player(0, 0), 6);
        Due.is("player(1, 0)", duel.player(1, 0), 18);
        Due.is("not reached", Due.played("goal 3 15;", "lay 1 2;").player(0, 3), 0);
        Due.is("a BONUS of 0", Due.played("goal 1 0;", "lay 1 1;").player(0, 3), 0);
        Due.is("the greatest", Due.played("goal 1 20;", "lay 1 1;").player(0, 3), 20);
    }

    private static void promise11TermsOfThePlayer() {
        RootDuel duel = Due.played("turns 60;bar 1;start 9 0;", "lay 1 1;lay 1 2;lay 1 3;pass;lay 1 1;pass;");
        Due.is("player(0, 7)", duel.player(0, 7), 3);
        Due.is("player(1, 7)", duel.player(1, 7), 1);
    }

    // ---- promise 12

    private static void promise12NotOver() {
        RootDuel duel = Due.with("turns 2;start 1 0;");
        Due.is("at the beginning", duel.winner(), NONE);
        duel.pass();
        Due.is("in between", duel.winner(), NONE);
        duel.lay(1, 1);
        Due.is("at the end", duel.winner(), 0);
        duel.undo();
        Due.is("behind undo of the end", duel.winner(), NONE);
    }

    private static void promise12TheGreaterScore() {
        Due.is("above 0", Due.played("turns 1;", "lay 1 0;").winner(), 0);
        Due.is("below 0", Due.played("turns 1;", "lay -1 0;").winner(), 1);
        Due.is("one point more", Due.played("turns 1;start 1 1;", "lay -1 0;").winner(), 1);
        Due.is("a lost claim", Due.played("", "pass;claim exactly 0 1 0 1;pass;").winner(), 0);
        Due.is("a claim that is right", Due.played("start 1 1;", "pass;claim exactly -1 0 1 1;pass;").winner(), 1);
        Due.is("the BONUS", Due.played("goal 1 1;", "pass;lay 1 1;").winner(), 1);
    }

    private static void promise12TheSame() {
        Due.is("as many", Due.played("turns 1;", "lay 1 1;").winner(), 2);
        Due.is("P = 0", Due.played("turns 1;", "pass;").winner(), 2);
    }

    // ---- promise 13

    private static void promise13WhatOutOfRange() {
        RootDuel duel = new RootDuel();
        int[] whats = {-1, 9, Integer.MIN_VALUE, Integer.MAX_VALUE};
        for (int what : whats) {
            Due.throwsArgument("account(" + what + ")", () -> duel.account(what));
        }
    }

    private static void expectAccounts(RootDuel duel, String when, int... want) {
        for (int what = 0; what < want.length; what++) {
            Due.is("account(" + what + ") " + when, duel.account(what), want[what]);
        }
    }

    private static void promise13ActsAndRefusals() {
        RootDuel duel = Due.with("turns 60;bar 1;purse 5;start 25 4;");
        duel.claim(0, 5, 0, true, 5);
        duel.claim(6, 7, 0, true, 1);
        duel.lay(1, 1);
        duel.pass();
        duel.claim(4, 7, 0, true, 1);
        duel.claim(5, 7, 0, true, 1);
        duel.lay(9, 4);
        duel.lay(1, 2);
        duel.lay(1, 1);
        duel.lay(1, 1);
        expectAccounts(duel, "behind all", 5, 0, 1, 0, 1, 1, 1, 1, 0);
    }

    private static void promise13EachReason() {
        RootDuel four = Due.played("turns 60;bar 1;purse 40;", "claim least 0 1 0 1;lay 1 1;pass;"
                + "claim least 1 2 0 1;lay 1 1;pass;claim least 2 3 0 1;lay 1 1;pass;claim least 3 4 0 1;lay 1 1;pass;");
        four.claim(5, 6, 0, true, 1);
        four.claim(5, 6, 0, true, 1);
        expectAccounts(four, "behind a fifth claim", 12, 0, 0, 2, 0, 0, 0, 0, 0);
        RootDuel zero = Due.with("start 1 0;");
        zero.lay(-1, 0);
        expectAccounts(zero, "behind P = 0", 0, 0, 0, 0, 0, 0, 0, 0, 1);
        RootDuel over = Due.played("", "pass;pass;");
        over.pass();
        over.lay(1, 1);
        over.claim(0, 1, 1, true, 1);
        expectAccounts(over, "when it is over", 2, 3, 0, 0, 0, 0, 0, 0, 0);
    }

    private static void promise13UndoneActsCountToo() {
        RootDuel duel = Due.played("", "lay 1 1;");
        duel.undo();
        duel.undo();
        expectAccounts(duel, "behind undo", 1, 0, 0, 0, 0, 0, 0, 0, 0);
        duel.lay(1, 1);
        Due.is("account(0) behind the same act", duel.account(0), 2);
    }

    private static void promise13QuestionsAndExceptionsDoNotCount() {
        RootDuel duel = Due.played("", "lay 1 1;");
        duel.why(1, 1);
        duel.best();
        duel.behind(1, 2, 0);
        Due.throwsState("behind(1, 1, 0)", () -> duel.behind(1, 1, 0));
        Due.throwsArgument("lay(0, 1)", () -> duel.lay(0, 1));
        Due.throwsIndex("lay(1, 5)", () -> duel.lay(1, 5));
        Due.throwsArgument("claim", () -> duel.claim(0, 0, 0, true, 1));
        expectAccounts(duel, "behind questions", 1, 0, 0, 0, 0, 0, 0, 0, 0);
    }

    private static void promise13SetupsAndSavedStatesLeaveThem() {
        RootDuel duel = Due.played("", "lay 1 1;");
        duel.save(0);
        duel.lay(1, 1);
        duel.restore(0);
        duel.load();
        expectAccounts(duel, "behind load", 1, 0, 0, 0, 0, 0, 1, 0, 0);
    }
}
