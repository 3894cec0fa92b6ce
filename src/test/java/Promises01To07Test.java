/** A new object, the text buffer, setups, scripts and their errors. */
public final class Promises01To07Test {
    /** What stands ahead of the number of each setting and behind it, its range, and what count() calls it. */
    private static final String[] AHEAD = {"powers ", "bar ", "turns ", "reach ", "goal ", "goal 3 ", "purse "};
    private static final String[] BEHIND = {";", ";", ";", ";", " 7;", ";", ";"};
    private static final int[] LEAST = {2, 0, 1, 1, 0, 0, 1};
    private static final int[] MOST = {5, 9, 60, 20, 4, 20, 40};
    private static final int[] FIRST = {5, 2, 12, 5, 0, 0, 12};
    private static final String[] WORDS = {"powers", "bar", "turns", "reach", "goal", "purse"};
    private static final String TEN_COMMANDS = "pass;lay 1 1;pass;lay 1 2;pass;lay 1 3;pass;lay 1 4;pass;lay 1 0;";
    private static final String FORTY_COMMANDS = TEN_COMMANDS + TEN_COMMANDS + TEN_COMMANDS + TEN_COMMANDS;

    public static void main(String[] args) {
        Due.all(Promises01To07Test.class);
    }

    // ---- what the tests share

    /** The text without the ^ that tells where its error is due. */
    private static String plain(String marked) {
        return marked.replace("^", "");
    }

    /** A setup with this error at the ^, read by a new object. */
    private static void setupError(int code, String marked) {
        RootDuel duel = new RootDuel();
        Due.append(duel, plain(marked));
        expectError(duel, duel.load(), code, marked);
        Due.is("count(0) behind " + marked, duel.count(0), 5);
        Due.is("degree behind " + marked, duel.degree(), RootDuel.NONE);
    }

    /** A script with this error at the ^, read by a new object. */
    private static void scriptError(int code, String marked) {
        RootDuel duel = new RootDuel();
        Due.append(duel, plain(marked));
        expectError(duel, duel.play(), code, marked);
        Due.is("acts behind " + marked, duel.account(0), 0);
        Due.is("turns behind " + marked, duel.count(7), 0);
    }

    private static void expectError(RootDuel duel, int answer, int code, String marked) {
        Due.is("answer to " + marked, answer, RootDuel.NONE);
        Due.is("errorCode of " + marked, duel.errorCode(), code);
        Due.is("errorPosition of " + marked, duel.errorPosition(), marked.indexOf('^'));
        Due.is("length behind " + marked, Due.lengthOf(duel), 0);
    }

    private static void expectFirstSettings(RootDuel duel) {
        for (int what = 0; what < FIRST.length; what++) {
            Due.is("count(" + what + ")", duel.count(what), FIRST[what]);
        }
    }

    private static RootDuel filled(int length) {
        RootDuel duel = new RootDuel();
        for (int i = 0; i < length; i += 4) {
            duel.appendText(0x20202020);
        }
        duel.truncateText(length);
        return duel;
    }

    // ---- promise 1

    private static void promise1NoneIsMinusOne() {
        Due.is("NONE", RootDuel.NONE, -1);
    }

    private static void promise1SettingsAsAtFirst() {
        expectFirstSettings(new RootDuel());
    }

    private static void promise1PolynomialIs0() {
        RootDuel duel = new RootDuel();
        Due.is("degree()", duel.degree(), RootDuel.NONE);
        Due.is("allRoots()", duel.allRoots(), RootDuel.NONE);
        for (int power = 0; power < 5; power++) {
            Due.is("power(" + power + ", 0)", duel.power(power, 0), 0);
        }
        Due.isText("write()", Due.polynomialOf(duel), "0");
    }

    private static void promise1AheadOfTheFirstTurn() {
        RootDuel duel = new RootDuel();
        int[] want = {0, 0, 0, 0, 0, 0, 0, 0, RootDuel.NONE};
        for (int what = 7; what <= 15; what++) {
            Due.is("count(" + what + ")", duel.count(what), want[what - 7]);
        }
        Due.is("winner()", duel.winner(), RootDuel.NONE);
        Due.is("undo()", duel.undo(), RootDuel.NONE);
        for (int what = 0; what <= 8; what++) {
            Due.is("account(" + what + ")", duel.account(what), 0);
        }
    }

    private static void promise1NoClaimsAndNoTerms() {
        RootDuel duel = new RootDuel();
        for (int player = 0; player <= 1; player++) {
            for (int what = 0; what <= 7; what++) {
                Due.is("player(" + player + ", " + what + ")", duel.player(player, what), 0);
                Due.is("claimOf(" + player + ")", duel.claimOf(player, 0, Math.min(what, 6)), RootDuel.NONE);
            }
        }
        for (int power = 0; power < 5; power++) {
            int[] want = {0, 0, 0, RootDuel.NONE, RootDuel.NONE};
            for (int what = 0; what <= 4; what++) {
                Due.is("power(" + power + ", " + what + ")", duel.power(power, what), want[what]);
            }
        }
        Due.isText("writeTurns()", Due.turnsOf(duel), "");
    }

    private static void promise1TextBufferIsEmpty() {
        RootDuel duel = new RootDuel();
        Due.throwsArgument("truncateText(1)", () -> duel.truncateText(1));
        Due.is("truncateText(0)", duel.truncateText(0), 0);
        Due.is("appendText", duel.appendText(0), 4);
    }

    private static void promise1NoOutput() {
        Due.is("output(0)", new RootDuel().output(0), RootDuel.NONE);
    }

    private static void promise1NoSavedStates() {
        RootDuel duel = new RootDuel();
        Due.throwsState("restore(0)", () -> duel.restore(0));
        Due.throwsState("restore(1)", () -> duel.restore(1));
    }

    private static void promise1ObjectsAreApart() {
        RootDuel one = new RootDuel();
        RootDuel other = new RootDuel();
        one.lay(1, 1);
        one.save(0);
        one.write();
        one.appendText(0);
        Due.is("degree() of the other", other.degree(), RootDuel.NONE);
        Due.is("output(0) of the other", other.output(0), RootDuel.NONE);
        Due.is("appendText of the other", other.appendText(0), 4);
        Due.throwsState("restore(0) of the other", () -> other.restore(0));
    }

    // ---- promise 2

    private static void promise2HighestByteFirst() {
        RootDuel duel = new RootDuel();
        duel.appendText('b' << 24 | 'a' << 16 | 'r' << 8 | ' ');
        duel.appendText('7' << 24 | ';' << 16 | '\n' << 8 | ' ');
        Due.is("load of bar 7;", duel.load(), 1);
        Due.is("count(1)", duel.count(1), 7);
    }

    private static void promise2NegativeNumbersAreBytesToo() {
        RootDuel duel = new RootDuel();
        Due.is("appendText", duel.appendText(0x20ffe180), 4);
        Due.is("load", duel.load(), RootDuel.NONE);
        Due.is("errorPosition behind a blank", duel.errorPosition(), 1);
        Due.is("appendText", duel.appendText(0xe1e1e1e1), 4);
        Due.is("load", duel.load(), RootDuel.NONE);
        Due.is("errorPosition", duel.errorPosition(), 0);
    }

    private static void promise2AnswersTheLength() {
        RootDuel duel = new RootDuel();
        for (int length = 4; length <= 600; length += 4) {
            Due.is("appendText", duel.appendText(0), length);
        }
        Due.is("truncateText(3)", duel.truncateText(3), 3);
        Due.is("appendText behind 3 bytes", duel.appendText(0), 7);
    }

    private static void promise2LongestText() {
        Due.is("appendText behind 596 bytes", filled(596).appendText(0x20202020), 600);
        RootDuel duel = filled(592);
        Due.append(duel, "bar 3 ;;");
        Due.is("load of 600 bytes", duel.load(), RootDuel.NONE);
        Due.is("errorPosition at the last of 600 bytes", duel.errorPosition(), 599);
        RootDuel other = filled(592);
        Due.append(other, "bar   3;");
        Due.is("load of 600 good bytes", other.load(), 1);
        Due.is("count(1)", other.count(1), 3);
        RootDuel full = filled(596);
        Due.append(full, "bar ");
        Due.is("load of 600 bytes that end too early", full.load(), RootDuel.NONE);
        Due.is("errorPosition behind 600 bytes", full.errorPosition(), 600);
    }

    private static void promise2TooLongText() {
        for (int length = 597; length <= 600; length++) {
            RootDuel duel = filled(length);
            Due.throwsState("appendText behind " + length + " bytes", () -> duel.appendText(0x20202020));
            int more = length + 1;
            Due.throwsArgument("truncateText(" + more + ")", () -> duel.truncateText(more));
            Due.is("truncateText(" + length + ")", duel.truncateText(length), length);
            Due.is("load of blanks behind a refused append", duel.load(), 0);
        }
    }

    // ---- promise 3

    private static void promise3CutsToTheFirstBytes() {
        RootDuel duel = new RootDuel();
        Due.append(duel, "bar 73;turns");
        Due.is("truncateText(5)", duel.truncateText(5), 5);
        Due.append(duel, ";");
        Due.is("load", duel.load(), 1);
        Due.is("count(1)", duel.count(1), 7);
        Due.is("count(2)", duel.count(2), 12);
    }

    private static void promise3PresentLength() {
        RootDuel duel = new RootDuel();
        Due.append(duel, "bar 7;");
        Due.is("truncateText(6)", duel.truncateText(6), 6);
        Due.throwsArgument("truncateText(7)", () -> duel.truncateText(7));
        Due.is("load", duel.load(), 1);
    }

    private static void promise3ToNothing() {
        RootDuel duel = new RootDuel();
        Due.append(duel, "oops");
        Due.is("truncateText(0)", duel.truncateText(0), 0);
        Due.throwsArgument("truncateText(1)", () -> duel.truncateText(1));
        Due.is("load", duel.load(), 0);
    }

    private static void promise3OutOfRange() {
        RootDuel duel = new RootDuel();
        Due.append(duel, "bar 7;");
        int[] lengths = {-1, 7, 8, 600, 601, Integer.MIN_VALUE, Integer.MAX_VALUE};
        for (int length : lengths) {
            Due.throwsArgument("truncateText(" + length + ")", () -> duel.truncateText(length));
        }
        Due.is("the text stays", duel.truncateText(6), 6);
        Due.is("load", duel.load(), 1);
        Due.throwsArgument("truncateText(1) behind load", () -> duel.truncateText(1));
    }

    // ---- promise 4: what a setup does

    private static void promise4NumberOfStatements() {
        Due.is("nothing", Due.load(new RootDuel(), ""), 0);
        Due.is("blanks", Due.load(new RootDuel(), " \n \n"), 0);
        Due.is("one", Due.load(new RootDuel(), "bar 1;"), 1);
        Due.is("all", Due.load(new RootDuel(), "powers 5;bar 1;turns 9;reach 3;goal 2 4;purse 7;"
                + "start 1 0;start 2 1;start 3 2;start 4 3;start 5 4;"), 11);
    }

    private static void promise4UntoldSettingsAreAsAtFirst() {
        RootDuel duel = Due.with("goal 3 4; bar 0;purse 40\n; turns 60;reach 20;powers 3;start 5 1;");
        int[] want = {3, 0, 60, 20, 3, 4, 40};
        for (int what = 0; what < want.length; what++) {
            Due.is("count(" + what + ")", duel.count(what), want[what]);
        }
        Due.is("load of nothing", duel.load(), 0);
        expectFirstSettings(duel);
        Due.is("degree() behind load of nothing", duel.degree(), RootDuel.NONE);
    }

    private static void promise4BeginsAnew() {
        RootDuel duel = Due.played("goal 2 9;start -1 0;", "claim exactly -1 1 1 3;lay 2 1;lay 3 2;");
        Due.is("over", duel.count(9), 1);
        Due.is("bonus", duel.count(15), 1);
        Due.is("load", Due.load(duel, "start 1 0;start 0 3;"), 2);
        Due.isText("the state", Due.stateOf(duel), Due.stateOf(Due.with("start 1 0;")));
        Due.is("lay", duel.lay(1, 2), 0);
    }

    private static void promise4BeginsAnewBehindQuestions() {
        RootDuel duel = Due.played("goal 2 9;start -1 0;start 3 1;", "claim exactly -1 1 1 3;pass;claim least 0 1 1 2;");
        Due.is("roots behind a term", duel.behind(5, 2, 0), 2);
        Due.is("over behind it", duel.behind(5, 2, 3), 1);
        duel.best();
        duel.load();
        Due.isText("the state", Due.stateOf(duel), Due.stateOf(new RootDuel()));
        RootDuel asked = Due.played("goal 2 9;start -1 0;", "lay 1 2;");
        asked.undo();
        asked.behind(1, 2, 3);
        asked.load();
        Due.isText("the state", Due.stateOf(asked), Due.stateOf(new RootDuel()));
    }

    private static void promise4NothingCanBeUndone() {
        RootDuel duel = Due.played("", "lay 1 1;lay 1 2;");
        Due.is("count(13)", duel.count(13), 2);
        Due.load(duel, "bar 1;");
        Due.is("count(13) behind load", duel.count(13), 0);
        Due.is("undo()", duel.undo(), RootDuel.NONE);
        Due.is("count(1)", duel.count(1), 1);
    }

    private static void promise4SavedStatesAccountsAndOutputStay() {
        RootDuel duel = Due.played("turns 3;", "lay 1 1;");
        duel.save(1);
        duel.lay(1, 1);
        duel.write();
        Due.load(duel, "bar 1;");
        Due.is("account(0)", duel.account(0), 1);
        Due.is("account(6)", duel.account(6), 1);
        Due.isText("the output", Due.outputOf(duel), "x");
        duel.restore(1);
        Due.is("count(2) restored", duel.count(2), 3);
        Due.is("degree() restored", duel.degree(), 1);
        Due.throwsState("restore(0)", () -> duel.restore(0));
    }

    private static void promise4TextIsEmptyAfterwards() {
        RootDuel duel = Due.with("bar 1;");
        Due.throwsArgument("truncateText(1)", () -> duel.truncateText(1));
        Due.load(duel, "bar ;");
        Due.throwsArgument("truncateText(1) behind an error", () -> duel.truncateText(1));
        Due.is("load", duel.load(), 0);
    }

    private static void promise4ErrorLeavesTheRest() {
        String setup = "powers 3;turns 9;purse 7;start 1 2;start -1 0;";
        String script = "lay 1 1;claim least 0 1 1 2;";
        RootDuel duel = Due.played(setup, script);
        duel.save(0);
        Due.is("load", Due.load(duel, "start 5 0;turns 7;powers 4;"), RootDuel.NONE);
        Due.is("errorCode()", duel.errorCode(), 3);
        Due.isText("the state", Due.stateOf(duel), Due.stateOf(Due.played(setup, script)));
        Due.is("account(0)", duel.account(0), 2);
        Due.is("undo()", duel.undo(), 1);
        duel.restore(0);
    }

    // ---- promise 4: settings

    private static void promise4LeastOfEachSetting() {
        for (int i = 0; i < AHEAD.length; i++) {
            Due.is(AHEAD[i] + LEAST[i], Due.with(AHEAD[i] + LEAST[i] + BEHIND[i]).count(i), LEAST[i]);
        }
    }

    private static void promise4MostOfEachSetting() {
        for (int i = 0; i < AHEAD.length; i++) {
            Due.is(AHEAD[i] + MOST[i], Due.with(AHEAD[i] + MOST[i] + BEHIND[i]).count(i), MOST[i]);
        }
    }

    private static void promise4BelowTheLeast() {
        for (int i = 0; i < AHEAD.length; i++) {
            if (LEAST[i] > 0) {
                setupError(2, AHEAD[i] + "^" + (LEAST[i] - 1) + BEHIND[i]);
            }
            setupError(1, AHEAD[i] + "^-" + LEAST[i] + BEHIND[i]);
        }
    }

    private static void promise4AboveTheMost() {
        for (int i = 0; i < AHEAD.length; i++) {
            setupError(2, AHEAD[i] + "^" + (MOST[i] + 1) + BEHIND[i]);
        }
    }

    private static void promise4NumbersOfAnyLength() {
        String zeros = "0".repeat(200);
        Due.is("zeros ahead", Due.with("turns " + zeros + "60;").count(2), 60);
        Due.is("just zeros", Due.with("bar " + zeros + ";").count(1), 0);
        Due.is("zeros in a start", Due.with("start -" + zeros + "30 " + zeros + "4;").power(4, 0), -30);
        setupError(2, "bar ^" + zeros + "10;");
        setupError(2, "bar ^4294967297;");
        setupError(2, "bar ^18446744073709551617;");
        setupError(2, "bar ^1" + zeros + ";");
        setupError(2, "start -^4294967295 0;");
        setupError(2, "start 1 ^4294967296;");
        setupError(2, "bar ^1" + "0".repeat(40) + "1;");
    }

    // ---- promise 4: starts

    private static void promise4CoefficientOfAStart() {
        RootDuel duel = Due.with("start -30 4;start 30 0;start - 5 1;start -0 2;start 0 3;");
        int[] want = {30, -5, 0, 0, -30};
        for (int power = 0; power < 5; power++) {
            Due.is("power(" + power + ", 0)", duel.power(power, 0), want[power]);
        }
        setupError(2, "start ^31 0;");
        setupError(2, "start -^31 0;");
        setupError(2, "start - \n ^31 0;");
    }

    private static void promise4PowerOfAStartAsToldUpToThere() {
        Due.is("start 1 4", Due.load(new RootDuel(), "start 1 4;"), 1);
        setupError(2, "start 1 ^5;");
        setupError(1, "start 1 ^-1;");
        for (int powers = 2; powers <= 5; powers++) {
            int last = powers - 1;
            Due.is("degree() with powers " + powers, Due.with("powers " + powers + ";start 3 " + last + ";").degree(), last);
            setupError(2, "powers " + powers + ";start 3 ^" + powers + ";");
        }
    }

    private static void promise4PowersBehindTheEarlierContest() {
        RootDuel duel = Due.with("powers 2;");
        Due.is("the earlier POWERS do not count", Due.load(duel, "start 1 4;"), 1);
        Due.is("count(0)", duel.count(0), 5);
    }

    private static void promise4StartIsNoTerm() {
        RootDuel duel = Due.with("bar 0;start 7 2;");
        Due.is("count(7)", duel.count(7), 0);
        Due.is("count(10)", duel.count(10), 0);
        Due.is("count(11)", duel.count(11), 0);
        Due.is("power(2, 1)", duel.power(2, 1), 0);
        Due.is("power(2, 2)", duel.power(2, 2), 0);
        Due.is("power(2, 3)", duel.power(2, 3), RootDuel.NONE);
        Due.is("power(2, 4)", duel.power(2, 4), RootDuel.NONE);
        Due.is("player(0, 7)", duel.player(0, 7), 0);
        Due.is("lay(1, 2)", duel.lay(1, 2), 0);
    }

    // ---- promise 5: what a script does

    private static void promise5NumberOfCommandsDone() {
        Due.is("nothing", Due.play(new RootDuel(), ""), 0);
        Due.is("blanks", Due.play(new RootDuel(), "\n  "), 0);
        Due.is("one", Due.play(new RootDuel(), "pass;"), 1);
        RootDuel duel = Due.with("turns 40;bar 1;");
        String script = "claim exactly -20 -19 0 9;lay -9 4;\nclaim least 19 20 4 1 ; lay 09 0;pass;";
        Due.is("five", Due.play(duel, script), 5);
        Due.isText("writeTurns()", Due.turnsOf(duel),
                "claim exactly -20 -19 0 9;lay -9 4;claim least 19 20 4 1;lay 9 0;pass;");
        Due.is("count(13)", duel.count(13), 5);
        Due.is("account(0)", duel.account(0), 5);
    }

    private static void promise5StopsAtARefusal() {
        RootDuel duel = new RootDuel();
        Due.is("play", Due.play(duel, "lay 1 1;lay 1 1;lay 1 2;"), 1);
        Due.is("count(7)", duel.count(7), 1);
        Due.is("account(0)", duel.account(0), 1);
        Due.is("account(6)", duel.account(6), 1);
        Due.is("the first is refused", Due.play(duel, "lay 1 1;pass;"), 0);
        Due.is("count(7)", duel.count(7), 1);
        Due.is("account(6)", duel.account(6), 2);
    }

    private static void promise5RefusalsOfEachAct() {
        RootDuel duel = new RootDuel();
        Due.is("a second claim", Due.play(duel, "claim least 0 1 0 1;claim least 1 2 0 1;"), 1);
        Due.is("account(2)", duel.account(2), 1);
        Due.is("a pass at the end", Due.play(duel, "pass;pass;pass;pass;"), 2);
        Due.is("account(1)", duel.account(1), 1);
        Due.is("all at the end", Due.play(duel, "lay 1 1;"), 0);
        Due.is("account(1)", duel.account(1), 2);
        Due.is("no commands at the end", Due.play(duel, ""), 0);
        Due.is("account(1)", duel.account(1), 2);
    }

    private static void promise5ErrorMeansNothingIsDone() {
        RootDuel duel = new RootDuel();
        Due.is("play", Due.play(duel, "lay 1 1;claim least 0 1 1 1;pass;pass"), RootDuel.NONE);
        Due.is("count(7)", duel.count(7), 0);
        Due.is("degree()", duel.degree(), RootDuel.NONE);
        Due.is("account(0)", duel.account(0), 0);
        Due.is("count(13)", duel.count(13), 0);
    }

    private static void promise5TextIsEmptyAfterwards() {
        RootDuel duel = new RootDuel();
        Due.play(duel, "lay 1 1;");
        Due.throwsArgument("truncateText(1)", () -> duel.truncateText(1));
        Due.play(duel, "lay 1 1;pass;");
        Due.throwsArgument("truncateText(1) behind a refusal", () -> duel.truncateText(1));
        Due.play(duel, "lay 1 1");
        Due.throwsArgument("truncateText(1) behind an error", () -> duel.truncateText(1));
        Due.is("count(7)", duel.count(7), 1);
    }

    private static void promise5CoefficientOfATerm() {
        Due.played("", "lay -9 0;lay 9 1;lay - 1 2;lay 1 3;");
        scriptError(2, "lay ^0 1;");
        scriptError(2, "lay -^0 1;");
        scriptError(2, "lay ^000 1;");
        scriptError(2, "lay ^10 1;");
        scriptError(2, "lay -^10 1;");
        scriptError(2, "lay - ^10 1;");
        scriptError(2, "lay ^4294967297 1;");
    }

    private static void promise5PowerOfATerm() {
        for (int powers = 2; powers <= 5; powers++) {
            RootDuel duel = Due.with("powers " + powers + ";");
            Due.is("play with no such power", Due.play(duel, "pass;lay 1 " + powers + ";"), RootDuel.NONE);
            Due.is("errorCode()", duel.errorCode(), 2);
            Due.is("errorPosition()", duel.errorPosition(), 11);
            Due.is("count(7)", duel.count(7), 0);
            Due.is("play with the last power", Due.play(duel, "lay 1 " + (powers - 1) + ";"), 1);
        }
        scriptError(1, "lay 1 ^-1;");
    }

    private static void promise5IntervalOfAClaim() {
        Due.played("", "claim exactly -20 -19 1 1;pass;claim least 19 20 1 1;lay 1 1;claim least -19 20 1 1;");
        scriptError(2, "claim exactly -^21 1 1 1;");
        scriptError(2, "claim exactly ^20 20 1 1;");
        scriptError(2, "claim exactly ^20 21 1 1;");
        scriptError(2, "claim exactly 0 ^0 1 1;");
        scriptError(2, "claim exactly -3 -^3 1 1;");
        scriptError(2, "claim exactly 3 ^2 1 1;");
        scriptError(2, "claim exactly 3 -^4 1 1;");
        scriptError(2, "claim exactly 0 ^21 1 1;");
    }

    private static void promise5RootsAndStakeOfAClaim() {
        Due.played("", "claim exactly 0 1 0 1;pass;claim least 0 1 4 9;");
        scriptError(2, "claim least 0 1 ^5 1;");
        scriptError(1, "claim least 0 1 ^-1 1;");
        scriptError(2, "claim least 0 1 1 ^0;");
        scriptError(2, "claim least 0 1 1 ^10;");
        scriptError(1, "claim least 0 1 1 ^-1;");
    }

    private static void promise5ExactlyAndLeast() {
        RootDuel duel = Due.played("", "claim exactly 0 1 2 3;pass;claim least 0 1 2 3;");
        Due.is("exactly", duel.claimOf(0, 0, 3), 0);
        Due.is("least", duel.claimOf(1, 0, 3), 1);
        scriptError(1, "claim ^0 1 1 1;");
        scriptError(1, "claim ^most 0 1 1 1;");
        scriptError(1, "claim least ^exactly 0 1 1 1;");
        scriptError(1, "claim ^; least 0 1 1 1;");
    }

    private static void promise5FortyCommands() {
        RootDuel duel = Due.with("turns 60;");
        Due.is("40 commands", Due.play(duel, FORTY_COMMANDS + "\n"), 40);
        Due.is("count(7)", duel.count(7), 40);
        Due.is("40 commands more", Due.play(duel, FORTY_COMMANDS), 20);
        Due.is("count(7)", duel.count(7), 60);
    }

    // ---- promise 6: which error

    private static void promise6NoError() {
        RootDuel duel = new RootDuel();
        Due.is("no call", duel.errorCode(), 0);
        duel.load();
        Due.is("load of nothing", duel.errorCode(), 0);
        Due.play(duel, "lay 1 1;lay 1 1;");
        Due.is("a refusal is no error", duel.errorCode(), 0);
    }

    private static void promise6OfTheLatestCall() {
        RootDuel duel = new RootDuel();
        Due.load(duel, "bar 77;");
        Due.is("load", duel.errorCode(), 2);
        duel.lay(1, 1);
        duel.appendText(0);
        duel.truncateText(0);
        duel.save(0);
        duel.restore(0);
        Due.is("errorCode() stays", duel.errorCode(), 2);
        Due.play(duel, "lay");
        Due.is("play", duel.errorCode(), 1);
        duel.play();
        Due.is("a good play", duel.errorCode(), 0);
        Due.load(duel, "bar 1;bar 1;");
        Due.is("load", duel.errorCode(), 3);
        duel.play();
        Due.is("a good play behind a load", duel.errorCode(), 0);
        Due.play(duel, ";");
        duel.load();
        Due.is("a good load", duel.errorCode(), 0);
    }

    private static void promise6TokenNotAllowedThere() {
        setupError(1, "^;");
        setupError(1, "bar 1;^;");
        setupError(1, "bar ^bar 1;");
        setupError(1, "bar 1 ^1;");
        setupError(1, "bar 1 ^bar 1;");
        setupError(1, "^5;");
        setupError(1, "^-;");
        setupError(1, "^lay 1 1;");
        setupError(1, "^bonus 1;");
        setupError(1, "goal 0^;");
        setupError(1, "goal ^;");
        setupError(1, "goal 0 1 ^1;");
        setupError(1, "start -^;");
        setupError(1, "start -^-1 0;");
        setupError(1, "start 1 ^;");
        setupError(1, "start ^; 1 1;");
        setupError(1, "start 1 1^-;");
        scriptError(1, "^mass;");
        scriptError(1, "^start 1 1;");
        scriptError(1, "^exactly 0 1 1 1;");
        scriptError(1, "pass ^1;");
        scriptError(1, "pass ^pass;");
        scriptError(1, "lay 1^;");
        scriptError(1, "lay ^x 1;");
        scriptError(1, "lay - ^x;");
        scriptError(1, "lay -^-1 1;");
        scriptError(1, "lay - ^- 1;");
        scriptError(1, "claim least 0 1 1^;");
        scriptError(1, "claim least 0 1 1 1 ^1;");
        scriptError(1, "claim least ^; 0 1 1 1;");
        scriptError(1, "claim least 0 ^least 1 1;");
    }

    private static void promise6WordsAreMaximalRuns() {
        setupError(1, "^bars 1;");
        setupError(1, "^ba 1;");
        setupError(1, "^barturns 1;");
        setupError(1, "^far 1;");
        setupError(1, "^barz 1;");
        setupError(1, "^starts 1 1;");
        setupError(1, "^b ar 1;");
        setupError(1, "bar ^-1;");
        scriptError(1, "^passz;");
        scriptError(1, "^laya 1 1;");
        scriptError(1, "claim ^leastexactly 0 1 1 1;");
        Due.is("no blanks between a word and a number", Due.load(new RootDuel(), "bar7;turns30;start-3 2;"), 3);
        Due.is("none around a minus sign", Due.play(new RootDuel(), "lay-3 0;claim exactly-3-2 0 1;"), 2);
        setupError(1, "start 11^;");
        setupError(1, "bar 1^z;");
    }

    private static void promise6BytesOfNoToken() {
        String none = "\t\r\0\f.,:/`{@[AZ_+*^\u007f\u0080\u00e9\u00ff";
        for (int i = 0; i < none.length(); i++) {
            RootDuel duel = new RootDuel();
            Due.is("load behind " + (int) none.charAt(i), Due.load(duel, "bar 1;" + none.charAt(i)), RootDuel.NONE);
            Due.is("errorCode() for " + (int) none.charAt(i), duel.errorCode(), 1);
            Due.is("errorPosition() for " + (int) none.charAt(i), duel.errorPosition(), 6);
            Due.is("play", Due.play(duel, "lay 1" + none.charAt(i) + "1;"), RootDuel.NONE);
            Due.is("errorCode() of play for " + (int) none.charAt(i), duel.errorCode(), 1);
            Due.is("errorPosition() of play for " + (int) none.charAt(i), duel.errorPosition(), 5);
        }
        setupError(1, "^Bar 1;");
        setupError(1, "^bAr 1;");
        setupError(1, "bar^\t1;");
        setupError(1, "bar^\r\n1;");
    }

    private static void promise6EndsTooEarly() {
        String[] setups = {"bar", "bar 1", "bar 1 \n ", "start", "start -", "start 1", "start - 1 ", "start 1 1",
            "goal", "goal 1", "goal 1 2", "bar 1; turns 3"};
        for (String setup : setups) {
            setupError(1, setup + "^");
        }
        String[] scripts = {"lay", "lay -", "lay 1", "lay 1 1", "pass", "pass ", "claim", "claim least", "claim least -",
            "claim least 0", "claim least 0 1", "claim least 0 1 1", "claim least 0 1 1 1", "pass;lay 1 1\n"};
        for (String script : scripts) {
            scriptError(1, script + "^");
        }
    }

    private static void promise6SettingToldAlready() {
        for (String word : WORDS) {
            String numbers = word.equals("goal") ? " 3 3;" : " 3;";
            setupError(3, word + numbers + "^" + word + numbers);
            String other = word.equals("reach") ? "turns" : "reach";
            setupError(3, word + numbers + other + " 9;^" + word);
        }
    }

    private static void promise6PowersBehindAStart() {
        setupError(3, "start 1 4;^powers 5;");
        setupError(3, "start 0 0;^powers 5;");
        setupError(3, "start 0 0;bar 1;^powers");
        setupError(3, "powers 3;start 0 0;^powers 3;");
        Due.is("powers ahead of it", Due.load(new RootDuel(), "bar 1;powers 3;start 0 0;"), 3);
        Due.is("another setting behind it", Due.load(new RootDuel(), "start 0 0;bar 1;turns 1;reach 1;goal 1 1;purse 1;"), 6);
    }

    private static void promise6StartToldAlready() {
        for (int power = 0; power < 5; power++) {
            setupError(4, "start 1 " + power + ";start 2 ^" + power + ";");
        }
        setupError(4, "start 0 3;start 0 ^3;");
        setupError(4, "start 1 3;start 1 4;start 1 ^03;");
        setupError(4, "start 1 3;start 2 ^3");
    }

    private static void promise6CommandNumber41() {
        scriptError(5, FORTY_COMMANDS + "^pass;");
        scriptError(5, FORTY_COMMANDS + " \n^lay 99 99;");
        scriptError(5, FORTY_COMMANDS + "^claim");
        Due.is("40 commands and a blank", Due.play(Due.with("turns 60;"), FORTY_COMMANDS + " "), 40);
    }

    private static void promise6LeastOfSeveralErrors() {
        scriptError(1, FORTY_COMMANDS + "^exactly");
        scriptError(1, FORTY_COMMANDS + "^;");
        scriptError(1, FORTY_COMMANDS + "^7");
        scriptError(1, FORTY_COMMANDS + "^*");
        setupError(1, "start 1 3;start 2 ^-3;");
        setupError(1, "bar 1 ^bar 2;");
        setupError(2, "start 1 3;start 2 ^8;");
    }

    private static void promise6FirstWrongTokenCounts() {
        setupError(2, "bar ^77;;");
        setupError(2, "start 1 3;start ^99 3;");
        setupError(3, "bar 1;^bar x*");
        setupError(1, "^bor 77;bar 1;bar 1;");
        scriptError(2, "pass;lay ^10 9 *");
        scriptError(2, "lay ^0 1;" + FORTY_COMMANDS + "pass;");
        scriptError(2, "claim least 19 ^19 9 99;");
    }

    // ---- promise 7

    private static void promise7NoError() {
        RootDuel duel = new RootDuel();
        Due.is("no call", duel.errorPosition(), RootDuel.NONE);
        duel.load();
        Due.is("load of nothing", duel.errorPosition(), RootDuel.NONE);
        duel.play();
        Due.is("play of nothing", duel.errorPosition(), RootDuel.NONE);
        Due.play(duel, "lay 1 1;lay 1 1;");
        Due.is("a refusal is no error", duel.errorPosition(), RootDuel.NONE);
    }

    private static void promise7OfTheLatestCall() {
        RootDuel duel = new RootDuel();
        Due.load(duel, "bar 77;");
        Due.is("load", duel.errorPosition(), 4);
        duel.lay(1, 1);
        duel.undo();
        duel.save(0);
        duel.restore(0);
        Due.is("it stays", duel.errorPosition(), 4);
        Due.play(duel, "lay");
        Due.is("play", duel.errorPosition(), 3);
        duel.load();
        Due.is("a good load", duel.errorPosition(), RootDuel.NONE);
        Due.play(duel, "lay 1 7;");
        Due.is("play", duel.errorPosition(), 6);
        duel.play();
        Due.is("a good play", duel.errorPosition(), RootDuel.NONE);
    }

    private static void promise7FirstByteOfTheToken() {
        setupError(1, "bar 1;  ^turn 3;");
        setupError(2, "\n\nbar  ^100;");
        scriptError(2, "pass;lay 1 1;lay 1 ^9;");
        scriptError(1, "pass;pass;^*");
    }

    private static void promise7LengthOfATextThatEndsTooEarly() {
        setupError(1, "bar 1^");
        setupError(1, "bar 1   ^");
        scriptError(1, "pass\n\n^");
    }
}
