/** The examples of README.md answer what it says. */
public final class ReadmeTest {
    public static void main(String[] args) {
        acts();
        texts();
        Due.end("ReadmeTest");
    }

    private static void acts() {
        RootDuel duel = new RootDuel();
        Due.is("claim", duel.claim(0, 3, 2, false, 4), 0);
        Due.is("lay x^2", duel.lay(1, 2), 0);
        Due.is("lay -3x", duel.lay(-3, 1), 0);
        Due.is("lay on a barred power", duel.lay(5, 2), 6);
        Due.is("best()", duel.best(), 12);
        Due.is("behind(2, 0, 0)", duel.behind(2, 0, 0), 2);
        Due.is("lay 2", duel.lay(2, 0), 0);
        Due.is("allRoots()", duel.allRoots(), 2);
        Due.isText("P", Due.polynomialOf(duel), "x^2-3x+2");
        Due.is("near(0, 6)", duel.near(0, 6), 63);
        Due.is("player(0, 0)", duel.player(0, 0), 13);
        Due.is("player(0, 1)", duel.player(0, 1), 9);
        Due.is("undo()", duel.undo(), 3);
    }

    /** As README.md shows it; Due.append does the same in another way. */
    private static void append(RootDuel duel, String text) {
        int length = 0;
        for (int i = 0; i < text.length(); i += 4) {
            int four = 0;
            for (int j = i; j < i + 4; j++) {
                four = four << 8 | (j < text.length() ? text.charAt(j) : ' ');
            }
            length = duel.appendText(four);
        }
        duel.truncateText(length - (4 - text.length() % 4) % 4);
    }

    private static void texts() {
        RootDuel duel = new RootDuel();
        append(duel, "powers 4; bar 1; goal 3 10; start -2 0;");
        Due.is("load()", duel.load(), 4);
        append(duel, "lay 1 1; claim least 0 3 1 4; lay -2 3; pass;");
        Due.is("play()", duel.play(), 4);
        append(duel, "lay 1 9;");
        Due.is("play() of an error", duel.play(), RootDuel.NONE);
        Due.is("errorCode()", duel.errorCode(), 2);
        Due.is("errorPosition()", duel.errorPosition(), 6);
        for (int length = 0; length <= 9; length++) {
            RootDuel other = new RootDuel();
            append(other, "         ".substring(0, length));
            Due.is("the length", other.appendText(0), length + 4);
        }
    }
}
