/** Promises 1 and 8 to 13: a new object, and what is told of the contest. */
public final class ContestTest {
    public static void main(String[] args) {
        newObject();
        wrongArguments();
        counts();
        bars();
        barredForever();
        powers();
        claims();
        scores();
        claimsOnNothing();
        bonus();
        winners();
        accounts();
        Due.end("ContestTest");
    }

    private static void newObject() {
        Due.is("NONE", RootDuel.NONE, -1);
        RootDuel duel = new RootDuel();
        int[] want = {5, 2, 12, 5, 0, 0, 12, 0, 0, 0, 0, 0, 0, 0, 0, RootDuel.NONE};
        for (int what = 0; what < want.length; what++) {
            Due.is("count(" + what + ")", duel.count(what), want[what]);
        }
        for (int what = 0; what <= 8; what++) {
            Due.is("account(" + what + ")", duel.account(what), 0);
        }
        int[] power = {0, 0, 0, RootDuel.NONE, RootDuel.NONE};
        for (int at = 0; at < 25; at++) {
            Due.is("power(" + at / 5 + ", " + at % 5 + ")", duel.power(at / 5, at % 5), power[at % 5]);
        }
        for (int what = 0; what <= 7; what++) {
            Due.is("player(0, " + what + ")", duel.player(0, what), 0);
            Due.is("player(1, " + what + ")", duel.player(1, what), 0);
        }
        Due.is("winner", duel.winner(), RootDuel.NONE);
        Due.is("degree", duel.degree(), RootDuel.NONE);
        Due.is("errorCode", duel.errorCode(), 0);
        Due.is("errorPosition", duel.errorPosition(), RootDuel.NONE);
        Due.is("output(0)", duel.output(0), RootDuel.NONE);
        Due.is("undo", duel.undo(), RootDuel.NONE);
        Due.throwsState("restore(0)", () -> duel.restore(0));
        Due.throwsState("restore(1)", () -> duel.restore(1));
        Due.throwsArgument("truncateText(1)", () -> duel.truncateText(1));
        Due.isText("turns", Due.turnsOf(duel), "");
    }

    private static void wrongArguments() {
        RootDuel duel = Due.with("powers 3;start 1 0;");
        Due.throwsArgument("count(-1)", () -> duel.count(-1));
        Due.throwsArgument("count(16)", () -> duel.count(16));
        Due.throwsIndex("power(-1, 0)", () -> duel.power(-1, 0));
        Due.throwsIndex("power(3, 9)", () -> duel.power(3, 9));
        Due.throwsArgument("power(2, 5)", () -> duel.power(2, 5));
        Due.throwsArgument("power(2, -1)", () -> duel.power(2, -1));
        Due.throwsIndex("claimOf(-1, 0, 0)", () -> duel.claimOf(-1, 0, 0));
        Due.throwsIndex("claimOf(2, 0, 9)", () -> duel.claimOf(2, 0, 9));
        Due.throwsIndex("claimOf(0, -1, 9)", () -> duel.claimOf(0, -1, 9));
        Due.throwsArgument("claimOf(0, 0, 7)", () -> duel.claimOf(0, 0, 7));
        Due.throwsArgument("claimOf(0, 0, -1)", () -> duel.claimOf(0, 0, -1));
        Due.is("claimOf(1, 5, 6)", duel.claimOf(1, 5, 6), RootDuel.NONE);
        Due.is("claimOf(1, MAX, 0)", duel.claimOf(1, Integer.MAX_VALUE, 0), RootDuel.NONE);
        Due.throwsIndex("player(-1, 0)", () -> duel.player(-1, 0));
        Due.throwsIndex("player(2, 9)", () -> duel.player(2, 9));
        Due.throwsArgument("player(1, 8)", () -> duel.player(1, 8));
        Due.throwsArgument("player(1, -1)", () -> duel.player(1, -1));
        Due.throwsArgument("account(-1)", () -> duel.account(-1));
        Due.throwsArgument("account(9)", () -> duel.account(9));
    }

    private static void counts() {
        RootDuel duel = Due.with("turns 4;bar 1;");
        duel.claim(0, 1, 0, true, 1);
        Due.is("count(14) behind a claim", duel.count(14), 1);
        Due.is("count(7) behind a claim", duel.count(7), 0);
        Due.is("count(8) behind a claim", duel.count(8), 0);
        Due.is("count(13) behind a claim", duel.count(13), 1);
        duel.lay(1, 3);
        int[] want = {1, 1, 0, 1, 1, 0, 2, 0, RootDuel.NONE};
        expectCounts(duel, "behind a term", want);
        duel.pass();
        expectCounts(duel, "behind a pass", new int[] {2, 0, 0, 0, 1, 1, 3, 0, RootDuel.NONE});
        duel.lay(-2, 3);
        duel.claim(0, 1, 0, true, 1);
        expectCounts(duel, "behind a claim of 1", new int[] {3, 1, 0, 1, 2, 1, 5, 1, RootDuel.NONE});
        duel.lay(1, 0);
        expectCounts(duel, "at the end", new int[] {4, RootDuel.NONE, 1, 1, 3, 1, 6, 0, RootDuel.NONE});
        Due.is("lay at the end", duel.lay(1, 1), 1);
        expectCounts(duel, "behind the end", new int[] {4, RootDuel.NONE, 1, 1, 3, 1, 6, 0, RootDuel.NONE});
    }

    private static void expectCounts(RootDuel duel, String when, int[] want) {
        for (int i = 0; i < want.length; i++) {
            Due.is("count(" + (7 + i) + ") " + when, duel.count(7 + i), want[i]);
        }
    }

    private static void bars() {
        for (int bar = 1; bar <= 8; bar++) {
            barOf(bar);
        }
        RootDuel nine = Due.with("turns 60;bar 9;");
        Due.play(nine, "lay 1 4;pass;lay 1 0;pass;lay 1 1;pass;lay 1 2;pass;");
        Due.is("BAR 9: why(1, 4)", nine.why(1, 4), 6);
        Due.is("BAR 9: count(9)", nine.count(9), 0);
        Due.is("BAR 9: lay", nine.lay(1, 3), 0);
        Due.is("BAR 9: count(10)", nine.count(10), 5);
        Due.is("BAR 9: count(9) when all are barred", nine.count(9), 1);
        RootDuel duel = Due.with("turns 60;bar 3;");
        duel.lay(1, 0);
        Due.is("why in 1", duel.why(1, 0), 6);
        duel.lay(1, 1);
        Due.is("why in 2", duel.why(1, 0), 6);
        duel.lay(1, 2);
        Due.is("why in 3", duel.why(1, 0), 6);
        Due.is("count(10)", duel.count(10), 3);
        duel.lay(1, 3);
        Due.is("why in 4", duel.why(1, 0), 0);
        Due.is("count(10)", duel.count(10), 3);
        Due.is("lay in 4", duel.lay(1, 0), 0);
        Due.is("power(0, 2)", duel.power(0, 2), 2);
        Due.is("power(0, 3)", duel.power(0, 3), 4);
        Due.is("power(0, 4)", duel.power(0, 4), 0);
        Due.is("why in 5", duel.why(1, 0), 6);
    }

    private static void barOf(int bar) {
        RootDuel duel = Due.with("turns 60;bar " + bar + ";");
        duel.lay(1, 4);
        for (int turn = 1; turn <= bar + 1; turn++) {
            Due.is("BAR " + bar + ", power(4, 1) in " + turn, duel.power(4, 1), turn <= bar ? 1 : 0);
            Due.is("BAR " + bar + ", why(1, 4) in " + turn, duel.why(1, 4), turn <= bar ? 6 : 0);
            if (turn % 2 == 1) {
                duel.pass();
            } else {
                duel.lay(1, turn / 2 - 1);
            }
        }
    }

    private static void barredForever() {
        RootDuel other = Due.with("turns 60;bar 0;powers 3;");
        other.lay(1, 0);
        other.pass();
        other.lay(1, 1);
        for (int i = 0; i < 10; i++) {
            Due.is("forever: why(1, 0)", other.why(1, 0), 6);
            other.pass();
            other.undo();
        }
        other.pass();
        Due.is("forever: lay(1, 0)", other.lay(1, 0), 6);
        Due.is("count(9)", other.count(9), 0);
        other.lay(1, 2);
        Due.is("all barred: count(9)", other.count(9), 1);
        Due.is("all barred: count(10)", other.count(10), 3);
        Due.is("all barred: count(8)", other.count(8), RootDuel.NONE);
    }

    private static void powers() {
        RootDuel duel = Due.with("turns 60;bar 1;powers 2;start 7 1;");
        duel.pass();
        duel.lay(3, 1);
        int[] want = {10, 1, 1, 1, 1};
        for (int what = 0; what <= 4; what++) {
            Due.is("power(1, " + what + ")", duel.power(1, what), want[what]);
        }
        duel.pass();
        Due.is("power(1, 1)", duel.power(1, 1), 0);
        Due.is("power(0, 0)", duel.power(0, 0), 0);
        Due.throwsIndex("power(2, 0)", () -> duel.power(2, 0));
    }

    private static void claims() {
        RootDuel duel = Due.with("turns 60;bar 1;start 1 2;start -4 0;");
        duel.claim(-3, -2, 1, false, 5);
        duel.pass();
        duel.claim(-2, 2, 1, true, 4);
        duel.lay(1, 4);
        duel.claim(-2, 2, 2, false, 1);
        int[][] want = {{-3, -2, 1, 0, 5, 0, 0}, {-2, 2, 2, 0, 1, 1, 2}};
        for (int index = 0; index < want.length; index++) {
            for (int what = 0; what <= 6; what++) {
                Due.is("claimOf(0, " + index + ", " + what + ")", duel.claimOf(0, index, what), want[index][what]);
            }
        }
        Due.is("claimOf(1, 0, 3)", duel.claimOf(1, 0, 3), 1);
        Due.is("claimOf(1, 0, 5)", duel.claimOf(1, 0, 5), 1);
        Due.is("claimOf(1, 0, 6)", duel.claimOf(1, 0, 6), 1);
        Due.is("claimOf(0, 2, 0)", duel.claimOf(0, 2, 0), RootDuel.NONE);
        Due.is("player(0, 4)", duel.player(0, 4), 2);
        Due.is("player(0, 5)", duel.player(0, 5), 6);
        Due.is("player(0, 6)", duel.player(0, 6), 1);
        Due.is("player(0, 2)", duel.player(0, 2), -4);
        Due.is("player(1, 2)", duel.player(1, 2), 4);
        duel.undo();
        duel.undo();
        Due.is("x^2-4: claimOf(0, 0, 5)", duel.claimOf(0, 0, 5), 1);
        Due.is("x^2-4: claimOf(1, 0, 5)", duel.claimOf(1, 0, 5), 1);
    }

    private static void scores() {
        RootDuel duel = Due.with("reach 3;start 1 3;start -1 1;");
        Due.is("player(0, 1)", duel.player(0, 1), 2);
        Due.is("player(1, 1)", duel.player(1, 1), 2);
        duel.claim(-1, 0, 1, false, 6);
        Due.is("player(0, 0)", duel.player(0, 0), 8);
        Due.is("player(0, 2)", duel.player(0, 2), 6);
        duel.lay(1, 0);
        Due.is("player(0, 2) behind", duel.player(0, 2), -6);
        Due.is("player(0, 1) behind", duel.player(0, 1), 5);
        Due.is("player(1, 1) behind", duel.player(1, 1), 2);
        Due.is("player(0, 0) behind", duel.player(0, 0), -1);
        Due.is("player(0, 7)", duel.player(0, 7), 1);
        Due.is("player(1, 7)", duel.player(1, 7), 0);
        duel = Due.with("reach 20;start 1 1;");
        Due.is("reach 20: player(0, 1)", duel.player(0, 1), 20);
        Due.is("reach 20: player(1, 1)", duel.player(1, 1), 20);
        duel = Due.with("reach 1;start 1 2;");
        Due.is("reach 1: player(0, 1)", duel.player(0, 1), 2);
        Due.is("reach 1: player(1, 1)", duel.player(1, 1), 0);
    }

    private static void claimsOnNothing() {
        RootDuel duel = new RootDuel();
        duel.claim(-20, 20, 0, true, 9);
        Due.is("claimOf(0, 0, 5)", duel.claimOf(0, 0, 5), 0);
        Due.is("player(0, 0)", duel.player(0, 0), -9);
        duel.pass();
        duel.claim(-20, 20, 0, false, 2);
        Due.is("player(1, 2)", duel.player(1, 2), -2);
        Due.is("player(1, 6)", duel.player(1, 6), 0);
        duel.lay(5, 0);
        Due.is("player(0, 0) behind", duel.player(0, 0), 20);
        Due.is("player(1, 2) behind", duel.player(1, 2), 2);
    }

    private static void bonus() {
        RootDuel duel = Due.with("goal 2 15;bar 1;");
        duel.lay(1, 2);
        duel.lay(-4, 1);
        Due.is("count(15)", duel.count(15), 1);
        Due.is("count(9)", duel.count(9), 1);
        Due.is("player(1, 3)", duel.player(1, 3), 15);
        Due.is("player(0, 3)", duel.player(0, 3), 0);
        Due.is("player(0, 0)", duel.player(0, 0), 6);
        Due.is("player(1, 0)", duel.player(1, 0), 18);
        Due.is("winner", duel.winner(), 1);
        duel = Due.with("goal 1 0;");
        duel.lay(1, 1);
        Due.is("BONUS 0: count(15)", duel.count(15), 0);
        duel = Due.with("goal 2 3;turns 1;start -1 0;");
        duel.lay(1, 2);
        Due.is("the last turn: count(15)", duel.count(15), 0);
        duel = Due.with("goal 2 3;start 1 2;start -1 0;");
        duel.pass();
        Due.is("a pass: count(15)", duel.count(15), RootDuel.NONE);
        Due.is("a pass: count(9)", duel.count(9), 0);
        duel = Due.with("goal 0 3;");
        duel.lay(1, 1);
        Due.is("GOAL 0: count(9)", duel.count(9), 0);
        duel = Due.with("goal 1 3;");
        duel.lay(1, 0);
        Due.is("too few roots: count(9)", duel.count(9), 0);
        duel = Due.with("goal 1 3;");
        duel.lay(1, 4);
        Due.is("a root of multiplicity 4: count(9)", duel.count(9), 1);
        duel = Due.with("goal 2 3;");
        duel.lay(1, 4);
        Due.is("just a root of multiplicity 4: count(9)", duel.count(9), 0);
    }

    private static void winners() {
        RootDuel duel = Due.with("turns 1;");
        duel.lay(1, 1);
        Due.is("the same", duel.winner(), 2);
        duel = Due.with("turns 1;");
        duel.lay(1, 0);
        Due.is("above 0", duel.winner(), 0);
        duel = Due.with("turns 1;");
        Due.is("not over", duel.winner(), RootDuel.NONE);
        duel.lay(-1, 0);
        Due.is("below 0", duel.winner(), 1);
        duel = new RootDuel();
        duel.pass();
        duel.claim(0, 1, 0, false, 1);
        duel.pass();
        Due.is("a lost claim", duel.winner(), 0);
    }

    private static void accounts() {
        RootDuel duel = Due.with("turns 60;bar 1;purse 5;start 25 4;");
        duel.claim(0, 5, 0, true, 5);
        Due.is("claim again", duel.claim(6, 7, 0, true, 1), 2);
        duel.lay(1, 1);
        duel.pass();
        Due.is("overlap", duel.claim(4, 7, 0, true, 1), 4);
        Due.is("purse", duel.claim(5, 7, 0, true, 1), 5);
        Due.is("why", duel.why(9, 4), 7);
        Due.is("too great", duel.lay(9, 4), 7);
        duel.lay(1, 2);
        Due.is("not barred", duel.lay(1, 1), 0);
        Due.is("barred", duel.lay(1, 1), 6);
        Due.throwsArgument("lay(0, 1)", () -> duel.lay(0, 1));
        duel.undo();
        int[] want = {5, 0, 1, 0, 1, 1, 1, 1, 0};
        for (int what = 0; what < want.length; what++) {
            Due.is("account(" + what + ")", duel.account(what), want[what]);
        }
    }
}
