/** Promises 33 to 35: the polynomial and the turns as texts. */
public final class OutputTest {
    public static void main(String[] args) {
        bytes();
        polynomials();
        turns();
        turnsAsTheyAre();
        replay();
        longest();
        Due.end("OutputTest");
    }

    private static void bytes() {
        RootDuel duel = new RootDuel();
        Due.is("output(0) at first", duel.output(0), RootDuel.NONE);
        Due.is("output(-1) at first", duel.output(-1), RootDuel.NONE);
        Due.is("write", duel.write(), 1);
        Due.is("output(0)", duel.output(0), '0');
        int[] none = {-1, 1, 600, 1024, Integer.MIN_VALUE, Integer.MAX_VALUE};
        for (int index : none) {
            Due.is("output(" + index + ")", duel.output(index), RootDuel.NONE);
        }
        Due.is("writeTurns", duel.writeTurns(), 0);
        Due.is("output(0) of nothing", duel.output(0), RootDuel.NONE);
        duel.lay(-3, 1);
        duel.write();
        duel.lay(3, 0);
        duel.undo();
        duel.undo();
        duel.load();
        Due.isText("output stays", Due.outputOf(duel), "-3x");
        Due.is("output(2)", duel.output(2), 'x');
        Due.is("output(3)", duel.output(3), RootDuel.NONE);
        duel.save(0);
        duel.restore(0);
        Due.isText("output stays", Due.outputOf(duel), "-3x");
    }

    private static void polynomials() {
        polynomial("x^4+x^3+x^2+x+1", 1, 1, 1, 1, 1);
        polynomial("-x^4-x^3-x^2-x-1", -1, -1, -1, -1, -1);
        polynomial("30x^4-30x^3+2x^2-2x+30", 30, -2, 2, -30, 30);
        polynomial("-30x^4+10", 10, 0, 0, 0, -30);
        polynomial("x", 0, 1);
        polynomial("x+1", 1, 1);
        polynomial("5x+20", 20, 5);
        polynomial("-x", 0, -1);
        polynomial("1", 1);
        polynomial("-1", -1);
        polynomial("-x+1", 1, -1);
        polynomial("x^2-1", -1, 0, 1);
        polynomial("11x^3", 0, 0, 0, 11);
        polynomial("-10x^2+9", 9, 0, -10);
        polynomial("0", 0, 0, 0);
    }

    private static void polynomial(String want, int... coefficients) {
        Due.isText("write", Due.polynomialOf(Due.withPolynomial(coefficients)), want);
    }

    private static void turns() {
        RootDuel duel = Due.with("bar 1;start 4 0;");
        Due.isText("start", Due.turnsOf(duel), "");
        duel.claim(-3, 10, 2, false, 1);
        Due.isText("a claim of the present turn", Due.turnsOf(duel), "claim exactly -3 10 2 1;");
        duel.lay(-9, 4);
        duel.pass();
        duel.claim(-20, -3, 0, true, 9);
        Due.isText("turns", Due.turnsOf(duel),
                "claim exactly -3 10 2 1;lay -9 4;pass;claim least -20 -3 0 9;");
        duel.pass();
        Due.isText("turns at the end", Due.turnsOf(duel),
                "claim exactly -3 10 2 1;lay -9 4;pass;claim least -20 -3 0 9;pass;");
    }

    private static void turnsAsTheyAre() {
        RootDuel duel = Due.with("bar 1;");
        duel.lay(1, 1);
        duel.save(0);
        duel.claim(0, 1, 1, true, 3);
        duel.lay(2, 2);
        duel.lay(3, 3);
        duel.undo();
        Due.isText("behind undo", Due.turnsOf(duel), "lay 1 1;claim least 0 1 1 3;lay 2 2;");
        duel.undo();
        Due.isText("behind undo of a term", Due.turnsOf(duel), "lay 1 1;claim least 0 1 1 3;");
        duel.undo();
        Due.isText("behind undo of a claim", Due.turnsOf(duel), "lay 1 1;");
        duel.pass();
        duel.restore(0);
        Due.isText("restored", Due.turnsOf(duel), "lay 1 1;");
        duel.lay(1, 1);
        Due.isText("behind a refusal", Due.turnsOf(duel), "lay 1 1;");
    }

    private static void replay() {
        RootDuel duel = Due.with("bar 1;turns 8;");
        Due.play(duel, "claim least 1 2 1 2;lay 2 2;lay -3 1;pass;claim exactly 1 2 1 3;lay 1 0;lay -1 3;");
        String turns = Due.turnsOf(duel);
        RootDuel other = Due.with("bar 1;turns 8;");
        Due.is("play of the turns", Due.play(other, turns), 7);
        Due.isText("turns", Due.turnsOf(other), turns);
        Due.isText("write", Due.polynomialOf(other), Due.polynomialOf(duel));
        Due.is("score", other.player(1, 0), duel.player(1, 0));
    }

    private static void longest() {
        RootDuel duel = Due.with("bar 1;turns 60;purse 40;");
        StringBuilder want = new StringBuilder();
        for (int turn = 0; turn < 60; turn++) {
            if (turn < 8) {
                int a = turn / 2 - 20;
                duel.claim(a, a + 1, 0, false, 9);
                want.append("claim exactly ").append(a).append(' ').append(a + 1).append(" 0 9;");
            }
            int coefficient = turn % 4 < 2 ? -5 : 5;
            Due.is("lay", duel.lay(coefficient, turn % 2 + 1), 0);
            want.append("lay ").append(coefficient).append(' ').append(turn % 2 + 1).append(';');
            if (turn == 1) {
                duel.undo();
                duel.lay(-5, 3);
                want.setLength(want.length() - 2);
                want.append("3;");
            }
        }
        Due.isText("turns", Due.turnsOf(duel), want.toString());
        Due.is("output(0)", duel.output(0), 'c');
        Due.is("count(7)", duel.count(7), 60);
        Due.is("power(2, 0) at the end", duel.power(2, 0), 5);
        Due.is("undo of the last turn", duel.undo(), 11);
        want.setLength(want.length() - "lay 5 2;".length());
        Due.isText("turns behind undo", Due.turnsOf(duel), want.toString());
        Due.is("count(9)", duel.count(9), 0);
        Due.is("power(2, 0)", duel.power(2, 0), 0);
        Due.is("power(2, 3)", duel.power(2, 3), 57);
    }
}
