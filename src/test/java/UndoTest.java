/** Promises 36 to 38: undo, saved states. */
public final class UndoTest {
    public static void main(String[] args) {
        nothingToUndo();
        undoOfEachAct();
        undoOfTheEnd();
        twelveActs();
        whatUndoLeaves();
        barsBehindUndo();
        claimsBehindUndo();
        slots();
        savedState();
        whatRestoreLeaves();
        Due.end("UndoTest");
    }

    /** All that is told of a contest, but its accounts and the acts that can be undone. */
    private static String stateOf(RootDuel duel) {
        StringBuilder state = new StringBuilder();
        for (int what = 0; what <= 15; what++) {
            state.append(what == 13 ? 0 : duel.count(what)).append(' ');
        }
        for (int power = 0; power < duel.count(0); power++) {
            for (int what = 0; what <= 4; what++) {
                state.append(duel.power(power, what)).append(' ');
            }
        }
        for (int player = 0; player <= 1; player++) {
            for (int what = 0; what <= 7; what++) {
                state.append(duel.player(player, what)).append(' ');
            }
            for (int at = 0; at < 28; at++) {
                state.append(duel.claimOf(player, at / 7, at % 7)).append(' ');
            }
        }
        return state.append(duel.winner()).append(Due.turnsOf(duel)).toString();
    }

    private static void nothingToUndo() {
        RootDuel duel = new RootDuel();
        Due.is("undo", duel.undo(), RootDuel.NONE);
        duel.pass();
        Due.is("undo", duel.undo(), 0);
        Due.is("undo", duel.undo(), RootDuel.NONE);
        Due.is("count(7)", duel.count(7), 0);
        duel.lay(1, 1);
        duel.lay(1, 1);
        Due.is("refusals are no acts", duel.count(13), 1);
        duel.load();
        Due.is("behind load", duel.undo(), RootDuel.NONE);
        duel.lay(1, 1);
        Due.append(duel, "x");
        duel.load();
        Due.is("behind a load with an error", duel.count(13), 1);
    }

    private static void undoOfEachAct() {
        RootDuel duel = Due.with("bar 2;turns 30;goal 3 5;start 2 0;");
        String script = "lay 1 3;claim exactly -4 0 1 3;pass;lay -2 0;claim least 0 4 1 4;lay 3 2;"
                + "claim exactly 0 4 0 2;lay 1 4;pass;claim least -4 0 2 4;lay -4 0;";
        String[] states = new String[11];
        String[] commands = script.split(";");
        for (int i = 0; i < commands.length; i++) {
            states[i] = stateOf(duel);
            Due.is("play " + commands[i], Due.play(duel, commands[i] + ";"), 1);
        }
        for (int i = commands.length - 1; i >= 0; i--) {
            Due.is("undo of " + commands[i], duel.undo(), i);
            Due.isText("state ahead of " + commands[i], stateOf(duel), states[i]);
        }
    }

    private static void undoOfTheEnd() {
        String[] setups = {"turns 2;", "bar 0;powers 2;", "goal 1 9;", "bar 1;"};
        String[] acts = {"lay 1 2;pass;", "lay 1 0;lay 1 1;", "pass;lay 1 1;", "pass;pass;"};
        for (int i = 0; i < setups.length; i++) {
            RootDuel duel = Due.with(setups[i]);
            String[] both = acts[i].split(";");
            Due.play(duel, both[0] + ";");
            String state = stateOf(duel);
            Due.play(duel, both[1] + ";");
            Due.is("over", duel.count(9), 1);
            Due.is("undo", duel.undo(), 1);
            Due.isText("state", stateOf(duel), state);
            Due.is("count(15)", duel.count(15), RootDuel.NONE);
            Due.is("lay again", duel.why(2, 1), 0);
        }
    }

    private static void twelveActs() {
        RootDuel duel = Due.with("bar 1;turns 60;");
        String[] states = new String[20];
        for (int i = 0; i < 20; i++) {
            states[i] = stateOf(duel);
            Due.is("lay", duel.lay(i % 4 < 2 ? 1 : 2, i % 3), 0);
            Due.is("count(13)", duel.count(13), Math.min(12, i + 1));
        }
        for (int i = 19; i >= 15; i--) {
            Due.is("undo", duel.undo(), i - 8);
            Due.isText("state " + i, stateOf(duel), states[i]);
        }
        for (int i = 0; i < 3; i++) {
            duel.lay(1, (i + 3) % 5);
        }
        Due.is("count(13)", duel.count(13), 10);
        for (int i = 9; i >= 0; i--) {
            Due.is("undo", duel.undo(), i);
        }
        Due.isText("state 8", stateOf(duel), states[8]);
        Due.is("undo", duel.undo(), RootDuel.NONE);
        Due.isText("state 8 still", stateOf(duel), states[8]);
    }

    private static void whatUndoLeaves() {
        RootDuel duel = Due.with("bar 1;");
        duel.save(0);
        duel.lay(3, 2);
        duel.write();
        Due.append(duel, "bar 77;");
        duel.load();
        Due.append(duel, "bar 5;");
        duel.lay(3, 2);
        duel.undo();
        Due.is("account(0)", duel.account(0), 1);
        Due.is("account(6)", duel.account(6), 1);
        Due.isText("output", Due.outputOf(duel), "3x^2");
        Due.is("errorCode", duel.errorCode(), 2);
        Due.is("errorPosition", duel.errorPosition(), 4);
        Due.is("the text", duel.truncateText(6), 6);
        duel.lay(1, 1);
        duel.restore(0);
        Due.is("the saved state", duel.degree(), RootDuel.NONE);
        Due.is("the text", duel.load(), 1);
        Due.is("count(1)", duel.count(1), 5);
    }

    private static void barsBehindUndo() {
        RootDuel duel = Due.with("bar 1;turns 60;");
        duel.lay(1, 1);
        duel.pass();
        duel.lay(2, 1);
        Due.is("power(1, 3)", duel.power(1, 3), 2);
        duel.undo();
        Due.is("power(1, 3)", duel.power(1, 3), 0);
        Due.is("power(1, 2)", duel.power(1, 2), 1);
        Due.is("power(1, 1)", duel.power(1, 1), 0);
        duel.undo();
        Due.is("power(1, 1)", duel.power(1, 1), 1);
        duel.undo();
        Due.is("power(1, 3)", duel.power(1, 3), RootDuel.NONE);
        Due.is("power(1, 4)", duel.power(1, 4), RootDuel.NONE);
        Due.is("degree", duel.degree(), RootDuel.NONE);
    }

    private static void claimsBehindUndo() {
        RootDuel duel = new RootDuel();
        duel.claim(0, 5, 1, true, 9);
        duel.undo();
        Due.is("count(14)", duel.count(14), 0);
        Due.is("claimOf(0, 0, 0)", duel.claimOf(0, 0, 0), RootDuel.NONE);
        Due.is("claim again", duel.claim(3, 6, 0, false, 9), 0);
        duel.lay(1, 1);
        Due.is("count(14)", duel.count(14), 0);
        duel.undo();
        Due.is("count(14) behind undo", duel.count(14), 1);
        Due.is("claim", duel.claim(7, 8, 0, false, 1), 2);
        Due.is("claimOf(0, 0, 0)", duel.claimOf(0, 0, 0), 3);
    }

    private static void slots() {
        RootDuel duel = new RootDuel();
        Due.throwsArgument("save(-1)", () -> duel.save(-1));
        Due.throwsArgument("save(2)", () -> duel.save(2));
        Due.throwsArgument("restore(-1)", () -> duel.restore(-1));
        Due.throwsArgument("restore(2)", () -> duel.restore(2));
        duel.save(0);
        duel.restore(0);
        Due.throwsState("restore(1)", () -> duel.restore(1));
        duel.lay(1, 1);
        duel.save(1);
        duel.lay(1, 2);
        duel.save(0);
        duel.restore(1);
        Due.is("degree of 1", duel.degree(), 1);
        duel.restore(0);
        Due.is("degree of 0", duel.degree(), 2);
        duel.restore(1);
        duel.save(0);
        duel.restore(0);
        Due.is("degree of 0 replaced", duel.degree(), 1);
    }

    private static void savedState() {
        RootDuel duel = Due.with("powers 3;bar 1;turns 7;reach 2;goal 2 8;purse 20;start 1 2;");
        duel.claim(-2, 2, 2, true, 6);
        duel.save(0);
        String open = stateOf(duel);
        duel.lay(-2, 0);
        duel.save(1);
        String over = stateOf(duel);
        Due.is("over", duel.count(15), 0);
        Due.load(duel, "powers 5;turns 60;start 3 4;");
        duel.pass();
        duel.restore(1);
        Due.isText("the end", stateOf(duel), over);
        duel.restore(0);
        Due.isText("the open turn", stateOf(duel), open);
        Due.is("lay", duel.lay(1, 1), 0);
        duel.restore(0);
        Due.isText("saved still", stateOf(duel), open);
        RootDuel other = new RootDuel();
        Due.throwsState("a saved state of another object", () -> other.restore(0));
    }

    private static void whatRestoreLeaves() {
        RootDuel duel = Due.with("bar 1;");
        duel.lay(1, 1);
        duel.save(0);
        Due.is("count(13) behind save", duel.count(13), 1);
        duel.lay(1, 1);
        duel.lay(1, 2);
        duel.write();
        Due.append(duel, "lay 0");
        duel.play();
        Due.append(duel, "pass;");
        duel.restore(0);
        Due.is("count(13)", duel.count(13), 0);
        Due.is("undo", duel.undo(), RootDuel.NONE);
        Due.is("degree", duel.degree(), 1);
        Due.is("account(0)", duel.account(0), 2);
        Due.is("account(6)", duel.account(6), 1);
        Due.isText("output", Due.outputOf(duel), "x^2+x");
        Due.is("errorCode", duel.errorCode(), 2);
        Due.is("errorPosition", duel.errorPosition(), 4);
        Due.is("the text", duel.play(), 1);
        Due.is("count(12)", duel.count(12), 1);
        Due.is("count(13)", duel.count(13), 1);
    }
}
