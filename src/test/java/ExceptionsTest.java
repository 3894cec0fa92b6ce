import java.util.ArrayList;
import java.util.List;

/** "A method that throws an exception changes nothing", and of several exceptions the first of its list is thrown. */
public final class ExceptionsTest {
    private static final Class<?> INDEX = IndexOutOfBoundsException.class;
    private static final Class<?> ARGUMENT = IllegalArgumentException.class;
    private static final Class<?> STATE = IllegalStateException.class;
    private static final int MOST = Integer.MAX_VALUE;

    public static void main(String[] args) {
        Due.all(ExceptionsTest.class);
    }

    private interface Act {
        void on(RootDuel duel);
    }

    private static final class Wrong {
        private final Class<?> kind;
        private final String name;
        private final Act act;

        private Wrong(Class<?> kind, String name, Act act) {
            this.kind = kind;
            this.name = name;
            this.act = act;
        }
    }

    /** A contest with something in all that could change: turns, claims, bars, undo, an error, a text, an output. */
    private static RootDuel busy() {
        RootDuel duel = Due.with("powers 4;bar 2;turns 30;reach 6;goal 4 5;purse 20;start 29 0;start 1 3;");
        duel.save(1);
        Due.play(duel, "claim least -3 2 1 4;lay -2 1;claim exactly 0 9 2 3;lay 3 2;claim least 5 6 0 2;");
        duel.lay(1, 1);
        duel.claim(9, 10, 0, true, 1);
        duel.write();
        Due.load(duel, "turns 61;");
        Due.append(duel, "pass;");
        return duel;
    }

    private static List<Wrong> wrongCalls() {
        List<Wrong> calls = new ArrayList<>();
        calls.add(new Wrong(ARGUMENT, "promise 3: truncateText(6)", duel -> duel.truncateText(6)));
        calls.add(new Wrong(ARGUMENT, "promise 3: truncateText(-1)", duel -> duel.truncateText(-1)));
        calls.add(new Wrong(ARGUMENT, "promise 8: count(16)", duel -> duel.count(16)));
        calls.add(new Wrong(INDEX, "promise 9: power(4, 5)", duel -> duel.power(4, 5)));
        calls.add(new Wrong(ARGUMENT, "promise 9: power(3, 5)", duel -> duel.power(3, 5)));
        calls.add(new Wrong(INDEX, "promise 10: claimOf(2, -1, 7)", duel -> duel.claimOf(2, -1, 7)));
        calls.add(new Wrong(INDEX, "promise 10: claimOf(0, -1, 7)", duel -> duel.claimOf(0, -1, 7)));
        calls.add(new Wrong(ARGUMENT, "promise 10: claimOf(0, 9, 7)", duel -> duel.claimOf(0, 9, 7)));
        calls.add(new Wrong(INDEX, "promise 11: player(2, 8)", duel -> duel.player(2, 8)));
        calls.add(new Wrong(ARGUMENT, "promise 11: player(1, 8)", duel -> duel.player(1, 8)));
        calls.add(new Wrong(ARGUMENT, "promise 13: account(9)", duel -> duel.account(9)));
        calls.add(new Wrong(ARGUMENT, "promise 14: a", duel -> duel.claim(-21, 0, 0, true, 1)));
        calls.add(new Wrong(ARGUMENT, "promise 14: b", duel -> duel.claim(11, 11, 0, true, 1)));
        calls.add(new Wrong(ARGUMENT, "promise 14: roots", duel -> duel.claim(11, 12, 5, true, 1)));
        calls.add(new Wrong(ARGUMENT, "promise 14: stake", duel -> duel.claim(11, 12, 0, true, 10)));
        calls.add(new Wrong(INDEX, "promise 15: lay(0, 4)", duel -> duel.lay(0, 4)));
        calls.add(new Wrong(ARGUMENT, "promise 15: lay(0, 3)", duel -> duel.lay(0, 3)));
        calls.add(new Wrong(ARGUMENT, "promise 15: lay(10, 1), barred", duel -> duel.lay(10, 1)));
        calls.add(new Wrong(INDEX, "promise 17: why(0, 4)", duel -> duel.why(0, 4)));
        calls.add(new Wrong(ARGUMENT, "promise 17: why(0, 1), barred", duel -> duel.why(0, 1)));
        calls.add(new Wrong(INDEX, "promise 19: behind(0, 4, 4)", duel -> duel.behind(0, 4, 4)));
        calls.add(new Wrong(ARGUMENT, "promise 19: behind(0, 1, 0), barred", duel -> duel.behind(0, 1, 0)));
        calls.add(new Wrong(ARGUMENT, "promise 19: behind(1, 1, 4), barred", duel -> duel.behind(1, 1, 4)));
        calls.add(new Wrong(STATE, "promise 19: behind(1, 1, 0), barred", duel -> duel.behind(1, 1, 0)));
        calls.add(new Wrong(STATE, "promise 19: behind(2, 0, 0), too great", duel -> duel.behind(2, 0, 0)));
        calls.add(new Wrong(ARGUMENT, "promise 21: value(21)", duel -> duel.value(21)));
        calls.add(new Wrong(ARGUMENT, "promise 22: roots(0, 0)", duel -> duel.roots(0, 0)));
        calls.add(new Wrong(ARGUMENT, "promise 24: rootsOfSign(2)", duel -> duel.rootsOfSign(2)));
        calls.add(new Wrong(ARGUMENT, "promise 25: multiplicity(21)", duel -> duel.multiplicity(21)));
        calls.add(new Wrong(INDEX, "promise 26: near(4, 7)", duel -> duel.near(4, 7)));
        calls.add(new Wrong(ARGUMENT, "promise 26: near(0, 7)", duel -> duel.near(0, 7)));
        calls.add(new Wrong(INDEX, "promise 27: root(4)", duel -> duel.root(4)));
        calls.add(new Wrong(INDEX, "promise 29: rowDegree(5)", duel -> duel.rowDegree(5)));
        calls.add(new Wrong(INDEX, "promise 30: rowSign(5, 21)", duel -> duel.rowSign(5, 21)));
        calls.add(new Wrong(ARGUMENT, "promise 30: rowSign(0, 21)", duel -> duel.rowSign(0, 21)));
        calls.add(new Wrong(ARGUMENT, "promise 31: changes(3, 0)", duel -> duel.changes(3, 0)));
        calls.add(new Wrong(ARGUMENT, "promise 31: changes(2, 21)", duel -> duel.changes(2, 21)));
        calls.add(new Wrong(ARGUMENT, "promise 32: surplus(0, 0)", duel -> duel.surplus(0, 0)));
        calls.add(new Wrong(ARGUMENT, "promise 37: save(2)", duel -> duel.save(2)));
        calls.add(new Wrong(ARGUMENT, "promise 38: restore(2)", duel -> duel.restore(2)));
        calls.add(new Wrong(ARGUMENT, "promise 38: restore(MOST)", duel -> duel.restore(MOST)));
        calls.add(new Wrong(STATE, "promise 38: restore(0)", duel -> duel.restore(0)));
        return calls;
    }

    private static Class<?> thrownBy(Wrong call, RootDuel duel) {
        try {
            call.act.on(duel);
        } catch (RuntimeException e) {
            return e.getClass();
        }
        return null;
    }

    private static void promises3To38TheFirstExceptionOfTheList() {
        for (Wrong call : wrongCalls()) {
            Class<?> got = thrownBy(call, busy());
            if (got != call.kind) {
                Due.tell(call.name + " threw " + got + ", due is " + call.kind);
            }
        }
    }

    private static void promises3To38NothingChanges() {
        RootDuel same = busy();
        String besides = Due.besidesOf(same);
        String state = Due.stateOf(same);
        for (Wrong call : wrongCalls()) {
            RootDuel duel = busy();
            thrownBy(call, duel);
            Due.is("count(13) behind " + call.name, duel.count(13), 5);
            Due.isText("what is besides, behind " + call.name, Due.besidesOf(duel), besides);
            Due.isText("the state behind " + call.name, Due.stateOf(duel), state);
            duel.restore(1);
            Due.isText("the saved state behind " + call.name, Due.polynomialOf(duel), "x^3+29");
            Due.is("the text behind " + call.name, duel.play(), 1);
        }
    }

    private static void promise2NothingChangesIfTheTextIsTooLong() {
        RootDuel duel = Due.played("", "lay 1 1;");
        for (int i = 0; i < 148; i++) {
            duel.appendText(0x20202020);
        }
        Due.append(duel, "pass;");
        Due.throwsState("appendText", () -> duel.appendText(0x61616161));
        Due.is("count(13)", duel.count(13), 1);
        Due.is("truncateText(597)", duel.truncateText(597), 597);
        Due.is("play", duel.play(), 1);
    }
}
