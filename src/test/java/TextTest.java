/** Promises 2 to 7: the text buffer, setups, scripts and their errors. */
public final class TextTest {
    public static void main(String[] args) {
        buffer();
        bytesInOrder();
        settings();
        settingRanges();
        starts();
        setupErrors();
        failedLoad();
        loadBeginsAnew();
        scripts();
        scriptErrors();
        manyCommands();
        tokens();
        playStopsAtRefusal();
        Due.end("TextTest");
    }

    private static void buffer() {
        RootDuel duel = new RootDuel();
        for (int i = 1; i <= 150; i++) {
            Due.is("appendText", duel.appendText(0x20202020), 4 * i);
        }
        Due.throwsState("appendText at 600", () -> duel.appendText(0x20202020));
        Due.throwsArgument("truncateText(601)", () -> duel.truncateText(601));
        Due.throwsArgument("truncateText(-1)", () -> duel.truncateText(-1));
        Due.is("truncateText(600)", duel.truncateText(600), 600);
        Due.is("truncateText(597)", duel.truncateText(597), 597);
        Due.throwsState("appendText at 597", () -> duel.appendText(0x20202020));
        Due.throwsArgument("truncateText(598)", () -> duel.truncateText(598));
        Due.is("truncateText(596)", duel.truncateText(596), 596);
        Due.is("appendText at 596", duel.appendText(0x20202020), 600);
        Due.is("load of blanks", duel.load(), 0);
        Due.throwsArgument("truncateText(1) of nothing", () -> duel.truncateText(1));
        Due.is("truncateText(0)", duel.truncateText(0), 0);
        Due.is("appendText behind load", duel.appendText(0x20202020), 4);
        Due.is("play of blanks", duel.play(), 0);
        Due.is("appendText behind play", duel.appendText(0x41414141), 4);
        Due.is("load of letters", duel.load(), RootDuel.NONE);
        Due.is("appendText behind an error", duel.appendText(0x41414141), 4);
        Due.is("play of letters", duel.play(), RootDuel.NONE);
        Due.is("appendText behind another error", duel.appendText(0x41414141), 4);
    }

    private static void bytesInOrder() {
        RootDuel duel = new RootDuel();
        duel.appendText('b' << 24 | 'a' << 16 | 'r' << 8 | ' ');
        duel.appendText('7' << 24 | ';' << 16 | '\n' << 8 | ' ');
        Due.is("load of bar 7;", duel.load(), 1);
        Due.is("count(1)", duel.count(1), 7);
        duel.appendText(0xff202020);
        Due.is("load of byte 255", duel.load(), RootDuel.NONE);
        Due.is("errorPosition of byte 255", duel.errorPosition(), 0);
        Due.is("errorCode of byte 255", duel.errorCode(), 1);
    }

    private static void settings() {
        RootDuel duel = Due.with("goal 3 4; bar 0;purse 40\n; turns 60;reach 20;powers 3;");
        int[] want = {3, 0, 60, 20, 3, 4, 40};
        for (int what = 0; what < want.length; what++) {
            Due.is("count(" + what + ")", duel.count(what), want[what]);
        }
        Due.is("load of one setting", Due.load(duel, "reach 1;"), 1);
        int[] first = {5, 2, 12, 1, 0, 0, 12};
        for (int what = 0; what < first.length; what++) {
            Due.is("count(" + what + ") as at first", duel.count(what), first[what]);
        }
    }

    private static void settingRanges() {
        String[] words = {"powers", "bar", "turns", "reach", "goal", "purse"};
        int[] least = {2, 0, 1, 1, 0, 1};
        int[] most = {5, 9, 60, 20, 4, 40};
        for (int i = 0; i < words.length; i++) {
            String behind = words[i].equals("goal") ? " 20;" : ";";
            int at = words[i].equals("purse") ? 6 : i;
            RootDuel duel = Due.with(words[i] + " " + least[i] + behind);
            Due.is(words[i] + " least", duel.count(at), least[i]);
            duel = Due.with(words[i] + " " + most[i] + behind);
            Due.is(words[i] + " most", duel.count(at), most[i]);
            setupError(words[i] + " " + (most[i] + 1) + behind, 2, words[i].length() + 1);
            setupError(words[i] + " -1" + behind, 1, words[i].length() + 1);
            if (least[i] > 0) {
                setupError(words[i] + " " + (least[i] - 1) + behind, 2, words[i].length() + 1);
            }
            setupError(words[i] + " " + least[i] + behind + words[i], 3, words[i].length() + 2 + behind.length()
                    + Integer.toString(least[i]).length() - 1);
        }
        setupError("goal 0 21;", 2, 7);
        setupError("goal 0;", 1, 6);
        Due.is("BONUS", Due.with("goal 0 0;").count(5), 0);
    }

    private static void starts() {
        RootDuel duel = Due.with("start -30 4;start 30 0;start - 5 1;start -0 2;");
        Due.isText("write", Due.polynomialOf(duel), "-30x^4-5x+30");
        Due.is("count(10)", duel.count(10), 0);
        Due.is("count(11)", duel.count(11), 0);
        Due.is("power(4, 2)", duel.power(4, 2), 0);
        Due.is("power(4, 3)", duel.power(4, 3), RootDuel.NONE);
        setupError("start 31 0;", 2, 6);
        setupError("start -31 0;", 2, 7);
        setupError("start - 31 0;", 2, 8);
        setupError("start 1 5;", 2, 8);
        setupError("start 1 -1;", 1, 8);
        setupError("powers 3;start 1 3;", 2, 17);
        setupError("start 1 3;start 2 3;", 4, 18);
        setupError("start 1 3;start 99 3;", 2, 16);
        setupError("powers 3;start 1 2;start 1 02;", 4, 27);
        setupError("start 1 3;start 2 8;", 2, 18);
        setupError("start 0 0;powers 5;", 3, 10);
        setupError("start 0 0;power 5;", 1, 10);
    }

    private static void setupErrors() {
        setupError("bar", 1, 3);
        setupError("bar ", 1, 4);
        setupError("bar 1", 1, 5);
        setupError("bar 1 \n ", 1, 8);
        setupError(";", 1, 0);
        setupError("bar 1;;", 1, 6);
        setupError("bar bar 1;", 1, 4);
        setupError("bar 1 1;", 1, 6);
        setupError("Bar 1;", 1, 0);
        setupError("bars 1;", 1, 0);
        setupError("ba 1;", 1, 0);
        setupError("barturns 1;", 1, 0);
        setupError("far 1;", 1, 0);
        setupError("barz 1;", 1, 0);
        setupError("bara 1;", 1, 0);
        setupError("bar 1z;", 1, 5);
        setupError("lay 1 1;", 1, 0);
        setupError("5;", 1, 0);
        setupError("start", 1, 5);
        setupError("start -", 1, 7);
        setupError("start --1 0;", 1, 7);
        setupError("start -;", 1, 7);
        setupError("start 1", 1, 7);
        setupError("start 1 ;", 1, 8);
        setupError("bar 1.", 1, 5);
        setupError("bar\t1;", 1, 3);
        setupError("bar 1;\0", 1, 6);
        setupError("bar 4294967297;", 2, 4);
        setupError("bar 18446744073709551617;", 2, 4);
        setupError("bar 1;bar x", 3, 6);
    }

    private static void setupError(String text, int code, int position) {
        error(text, code, position, true);
    }

    private static void scriptError(String text, int code, int position) {
        error(text, code, position, false);
    }

    private static void error(String text, int code, int position, boolean setup) {
        RootDuel duel = new RootDuel();
        Due.append(duel, text);
        Due.is("answer to " + text, setup ? duel.load() : duel.play(), RootDuel.NONE);
        Due.is("errorCode of " + text, duel.errorCode(), code);
        Due.is("errorPosition of " + text, duel.errorPosition(), position);
        Due.is("count(0) behind " + text, duel.count(0), 5);
        Due.is("count(13) behind " + text, duel.count(13), 0);
        Due.is("degree behind " + text, duel.degree(), RootDuel.NONE);
        Due.append(duel, ";");
        duel.truncateText(0);
        Due.is("load behind " + text, duel.load(), 0);
        Due.is("errorCode behind " + text, duel.errorCode(), 0);
        Due.is("errorPosition behind " + text, duel.errorPosition(), RootDuel.NONE);
    }

    private static void failedLoad() {
        RootDuel duel = Due.with("powers 3;start 1 2;start -1 0;");
        duel.lay(1, 1);
        duel.claim(0, 1, 1, true, 2);
        Due.is("load", Due.load(duel, "start 5 0;powers 4;"), RootDuel.NONE);
        Due.is("errorCode", duel.errorCode(), 3);
        Due.is("errorPosition", duel.errorPosition(), 10);
        Due.is("count(0)", duel.count(0), 3);
        Due.isText("write", Due.polynomialOf(duel), "x^2+x-1");
        Due.isText("turns", Due.turnsOf(duel), "lay 1 1;claim least 0 1 1 2;");
        Due.is("count(13)", duel.count(13), 2);
        Due.is("undo", duel.undo(), 1);
    }

    private static void loadBeginsAnew() {
        RootDuel duel = Due.with("turns 3;start 1 1;");
        duel.save(1);
        duel.claim(-1, 1, 1, false, 3);
        duel.lay(2, 2);
        duel.lay(2, 2);
        duel.pass();
        duel.pass();
        duel.write();
        Due.is("over", duel.count(9), 1);
        Due.is("load", Due.load(duel, "start 1 0;start 0 3;"), 2);
        int[] want = {5, 2, 12, 5, 0, 0, 12, 0, 0, 0, 0, 0, 0, 0, 0, RootDuel.NONE};
        for (int what = 0; what < want.length; what++) {
            Due.is("count(" + what + ") anew", duel.count(what), want[what]);
        }
        Due.is("claims", duel.player(0, 4), 0);
        Due.is("terms", duel.player(0, 7), 0);
        Due.is("account(0)", duel.account(0), 4);
        Due.is("account(6)", duel.account(6), 1);
        Due.is("power(2, 2)", duel.power(2, 2), 0);
        Due.is("undo", duel.undo(), RootDuel.NONE);
        Due.isText("output", Due.outputOf(duel), "2x^2+x");
        Due.isText("write", Due.polynomialOf(duel), "1");
        Due.isText("turns", Due.turnsOf(duel), "");
        duel.restore(1);
        Due.is("count(2) restored", duel.count(2), 3);
    }

    private static void scripts() {
        RootDuel duel = Due.with("turns 40;bar 1;");
        Due.is("play", Due.play(duel, "claim exactly -20 -19 0 9;lay -9 4;\nclaim least 19 20 4 1 ; lay 09 0;pass;"), 5);
        Due.isText("write", Due.polynomialOf(duel), "-9x^4+9");
        Due.isText("turns", Due.turnsOf(duel),
                "claim exactly -20 -19 0 9;lay -9 4;claim least 19 20 4 1;lay 9 0;pass;");
        Due.is("account(0)", duel.account(0), 5);
        Due.is("count(13)", duel.count(13), 5);
        Due.is("count(7)", duel.count(7), 3);
        Due.is("empty play", duel.play(), 0);
        Due.is("errorCode", duel.errorCode(), 0);
    }

    private static void scriptErrors() {
        scriptError("lay 0 1;", 2, 4);
        scriptError("lay -0 1;", 2, 5);
        scriptError("lay 10 1;", 2, 4);
        scriptError("lay -10 1;", 2, 5);
        scriptError("lay 1 5;", 2, 6);
        scriptError("lay 1 -1;", 1, 6);
        scriptError("lay 1;", 1, 5);
        scriptError("lay 1 1", 1, 7);
        scriptError("lay x 1;", 1, 4);
        scriptError("lay - x;", 1, 6);
        scriptError("lay", 1, 3);
        scriptError("pass", 1, 4);
        scriptError("pass 1;", 1, 5);
        scriptError("mass;", 1, 0);
        scriptError("passz;", 1, 0);
        scriptError("pass`;", 1, 4);
        scriptError("pass{;", 1, 4);
        scriptError("lay 1 1/;", 1, 7);
        scriptError("lay 1 1:;", 1, 7);
        scriptError("start 1 1;", 1, 0);
        scriptError("claim 0 1 1 1;", 1, 6);
        scriptError("claim most 0 1 1 1;", 1, 6);
        scriptError("claim exactly -21 1 1 1;", 2, 15);
        scriptError("claim exactly 20 20 1 1;", 2, 14);
        scriptError("claim exactly 0 0 1 1;", 2, 16);
        scriptError("claim exactly -3 -3 1 1;", 2, 18);
        scriptError("claim exactly 0 21 1 1;", 2, 16);
        scriptError("claim least 0 1 5 1;", 2, 16);
        scriptError("claim least 0 1 -1 1;", 1, 16);
        scriptError("claim least 0 1 1 0;", 2, 18);
        scriptError("claim least 0 1 1 10;", 2, 18);
        scriptError("claim least 0 1 1;", 1, 17);
        scriptError("claim least 0 1 1 1 1;", 1, 20);
        scriptError("pass;lay 1 1;lay 1 9;", 2, 19);
        scriptError("pass;pass;*", 1, 10);
        RootDuel duel = Due.with("powers 3;");
        Due.is("play with a power that is none", Due.play(duel, "lay 1 3;"), RootDuel.NONE);
        Due.is("errorPosition", duel.errorPosition(), 6);
        Due.is("account(0)", duel.account(0), 0);
        Due.is("play with a power", Due.play(duel, "lay 1 2;"), 1);
    }

    private static void manyCommands() {
        String twenty = "pass;lay 1 1;pass;lay 1 2;pass;lay 1 3;pass;lay 1 4;pass;lay 1 0;"
                + "pass;lay 1 1;pass;lay 1 2;pass;lay 1 3;pass;lay 1 4;pass;lay 1 0;";
        RootDuel duel = Due.with("turns 60;");
        Due.is("40 commands", Due.play(duel, twenty + twenty), 40);
        Due.is("count(7)", duel.count(7), 40);
        Due.is("count(13)", duel.count(13), 12);
        scriptError(twenty + twenty + "pass;", 5, 260);
        scriptError(twenty + twenty + " lay 99 99;", 5, 261);
        scriptError(twenty + twenty + " claim", 5, 261);
        scriptError(twenty + twenty + " exactly", 1, 261);
        scriptError(twenty + twenty + ";", 1, 260);
        scriptError(twenty + twenty + "7", 1, 260);
        scriptError(twenty + twenty + "-", 1, 260);
    }

    private static void tokens() {
        RootDuel duel = new RootDuel();
        Due.is("no spaces", Due.load(duel, "bar7;turns30;start-3 2;"), 3);
        Due.is("bar", duel.count(1), 7);
        Due.isText("write", Due.polynomialOf(duel), "-3x^2");
        Due.is("zeros ahead", Due.load(duel, "bar 000000000000000000000000000000000000000000000000007;"), 1);
        Due.is("bar", duel.count(1), 7);
        Due.is("play", Due.play(duel, " \n lay-3 0;claim exactly-3-2 0 1;"), 2);
        Due.isText("turns", Due.turnsOf(duel), "lay -3 0;claim exactly -3 -2 0 1;");
        setupError("bar\r1;", 1, 3);
        scriptError("pass;\u00e9", 1, 5);
        scriptError("lay +1 1;", 1, 4);
    }

    private static void playStopsAtRefusal() {
        RootDuel duel = new RootDuel();
        Due.is("play", Due.play(duel, "lay 1 1;lay 1 1;pass;"), 1);
        Due.is("account(6)", duel.account(6), 1);
        Due.is("account(0)", duel.account(0), 1);
        Due.is("errorCode", duel.errorCode(), 0);
        Due.is("count(7)", duel.count(7), 1);
        Due.is("play on", Due.play(duel, "claim least 0 1 0 1;claim least 1 2 0 1;"), 1);
        Due.is("account(2)", duel.account(2), 1);
        Due.is("play to the end", Due.play(duel, "pass;pass;pass;pass;"), 2);
        Due.is("account(1)", duel.account(1), 1);
    }
}
