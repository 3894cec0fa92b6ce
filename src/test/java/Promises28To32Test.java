import java.math.BigInteger;
import java.util.ArrayList;
import java.util.Arrays;
import java.util.List;

/** The rows of both rules, their changes of sign, and the surplus. */
public final class Promises28To32Test {
    private static final int NONE = RootDuel.NONE;
    private static final int[] NO_PLACES = {-21, 21, Integer.MIN_VALUE, Integer.MAX_VALUE};

    public static void main(String[] args) {
        Due.all(Promises28To32Test.class);
    }

    private static void expectDegrees(String name, RootDuel duel, int... degrees) {
        Due.is(name + ": rows()", duel.rows(), degrees.length);
        for (int row = 0; row < degrees.length; row++) {
            Due.is(name + ": rowDegree(" + row + ")", duel.rowDegree(row), degrees[row]);
        }
        Due.throwsIndex(name + ": the row behind", () -> duel.rowDegree(degrees.length));
    }

    // ---- promise 28

    private static void promise28NoneIfPIs0() {
        Due.is("rows()", new RootDuel().rows(), 0);
        Due.is("rows() of zeros", Due.withPolynomial(0, 0, 0, 0, 0).rows(), 0);
        RootDuel duel = Due.played("", "lay 3 2;");
        Due.is("rows() of 3x^2", duel.rows(), 2);
        duel.undo();
        Due.is("rows() behind undo", duel.rows(), 0);
        Due.is("changes(1, 1) behind undo", duel.changes(1, 1), 0);
        Due.is("surplus(-1, 1) behind undo", duel.surplus(-1, 1), NONE);
        Due.throwsIndex("rowDegree(0) behind undo", () -> duel.rowDegree(0));
    }

    private static void promise28JustOneOfAConstant() {
        Due.is("rows()", Due.withPolynomial(-4).rows(), 1);
        Due.is("rows()", Due.withPolynomial(1).rows(), 1);
    }

    private static void promise28TwoOfADegreeOf1() {
        expectDegrees("-2x+4", Due.withPolynomial(4, -2), 1, 0);
        expectDegrees("x", Due.withPolynomial(0, 1), 1, 0);
    }

    private static void promise28FullRows() {
        expectDegrees("x^4-2x^3-x+5", Due.withPolynomial(5, -1, 0, -2, 1), 4, 3, 2, 1, 0);
        expectDegrees("x^3-x", Due.withPolynomial(0, -1, 0, 1), 3, 2, 1, 0);
        expectDegrees("x^2-2", Due.withPolynomial(-2, 0, 1), 2, 1, 0);
    }

    private static void promise28EndsAheadOfTheFirstRowThatIs0() {
        expectDegrees("x^4", Due.withPolynomial(0, 0, 0, 0, 1), 4, 3);
        expectDegrees("x^3", Due.withPolynomial(0, 0, 0, 1), 3, 2);
        expectDegrees("x^2", Due.withPolynomial(0, 0, 1), 2, 1);
        expectDegrees("(x-1)^2 (x+1)", Due.withPolynomial(1, -1, -1, 1), 3, 2, 1);
        expectDegrees("(x^2-2)^2", Due.withPolynomial(4, 0, -4, 0, 1), 4, 3, 2);
        expectDegrees("x (x-1)^3", Due.withPolynomial(0, -1, 3, -3, 1), 4, 3, 2);
        expectDegrees("x^2 (x-1) (x+1)", Due.withPolynomial(0, 0, -1, 0, 1), 4, 3, 2, 1);
    }

    private static void promise28DegreesThatFallByMore() {
        expectDegrees("x^4+x", Due.withPolynomial(0, 1, 0, 0, 1), 4, 3, 1, 0);
        expectDegrees("x^4+1", Due.withPolynomial(1, 0, 0, 0, 1), 4, 3, 0);
        expectDegrees("x^3-1", Due.withPolynomial(-1, 0, 0, 1), 3, 2, 0);
        expectDegrees("x^4-4x+3, a double root", Due.withPolynomial(3, -4, 0, 0, 1), 4, 3, 1);
    }

    // ---- promise 29

    private static void promise29NoSuchRow() {
        RootDuel duel = Due.withPolynomial(-2, 0, 1);
        int[] none = {-1, 3, 4, 5, Integer.MIN_VALUE, Integer.MAX_VALUE};
        for (int row : none) {
            Due.throwsIndex("rowDegree(" + row + ")", () -> duel.rowDegree(row));
        }
        Due.is("the last one", duel.rowDegree(2), 0);
        RootDuel zero = new RootDuel();
        Due.throwsIndex("rowDegree(0) of P = 0", () -> zero.rowDegree(0));
        RootDuel full = Due.withPolynomial(5, -1, 0, -2, 1);
        Due.is("the last of five", full.rowDegree(4), 0);
        Due.throwsIndex("behind five", () -> full.rowDegree(5));
        RootDuel constant = Due.withPolynomial(3);
        Due.is("of a constant", constant.rowDegree(0), 0);
        Due.throwsIndex("behind a constant", () -> constant.rowDegree(1));
    }

    private static void promise29DegreeOfEachRow() {
        RootDuel full = Due.withPolynomial(5, -1, 0, -2, 1);
        RootDuel falls = Due.withPolynomial(0, 1, 0, 0, 1);
        int[] degrees = {4, 3, 1, 0};
        for (int row = 0; row <= 4; row++) {
            Due.is("x^4-2x^3-x+5: rowDegree(" + row + ")", full.rowDegree(row), 4 - row);
        }
        for (int row = 0; row < degrees.length; row++) {
            Due.is("x^4+x: rowDegree(" + row + ")", falls.rowDegree(row), degrees[row]);
        }
        RootDuel line = Due.withPolynomial(-20, 3);
        Due.is("3x-20", line.rowDegree(0), 1);
        Due.is("its derivative", line.rowDegree(1), 0);
        Due.is("the last row of (x-2)^3", Due.withPolynomial(-8, 12, -6, 1).rowDegree(1), 2);
        RootDuel laid = Due.played("", "lay 1 1;lay 2 3;");
        Due.is("behind a term", laid.rowDegree(0), 3);
        laid.undo();
        Due.is("behind undo", laid.rowDegree(0), 1);
    }

    // ---- promise 30

    private static void promise30NoSuchRow() {
        RootDuel duel = Due.withPolynomial(-2, 0, 1);
        int[] none = {-1, 3, 5, Integer.MIN_VALUE, Integer.MAX_VALUE};
        for (int row : none) {
            Due.throwsIndex("rowSign(" + row + ", 0)", () -> duel.rowSign(row, 0));
            Due.throwsIndex("rowSign(" + row + ", 21)", () -> duel.rowSign(row, 21));
        }
        RootDuel zero = new RootDuel();
        Due.throwsIndex("rowSign(0, 0) of P = 0", () -> zero.rowSign(0, 0));
        Due.throwsIndex("rowSign(0, 21) of P = 0", () -> zero.rowSign(0, 21));
    }

    private static void promise30PlaceOutOfRange() {
        RootDuel duel = Due.withPolynomial(-2, 0, 1);
        for (int x : NO_PLACES) {
            Due.throwsArgument("rowSign(0, " + x + ")", () -> duel.rowSign(0, x));
            Due.throwsArgument("rowSign(2, " + x + ")", () -> duel.rowSign(2, x));
        }
    }

    private static void expectSigns(String name, RootDuel duel, int row, int from, int... signs) {
        for (int i = 0; i < signs.length; i++) {
            Due.is(name + ": rowSign(" + row + ", " + (from + i) + ")", duel.rowSign(row, from + i), signs[i]);
        }
    }

    private static void promise30EachSign() {
        RootDuel duel = Due.withPolynomial(0, -1, 0, 1);
        expectSigns("x^3-x", duel, 0, -2, -1, 0, 0, 0, 1);
        expectSigns("its derivative 3x^2-1", duel, 1, -1, 1, -1, 1);
        expectSigns("2x/3", duel, 2, -1, -1, 0, 1);
        expectSigns("1", duel, 3, -20, 1);
        expectSigns("-4", Due.withPolynomial(-4), 0, 20, -1);
        expectSigns("-2", Due.withPolynomial(4, -2), 1, 2, -1);
    }

    private static void promise30SignsOfTheRemainderAreChanged() {
        // x^2+1 less x/2 times 2x is 1
        expectSigns("x^2+1", Due.withPolynomial(1, 0, 1), 2, 0, -1);
        expectSigns("x^2-1", Due.withPolynomial(-1, 0, 1), 2, 0, 1);
        // with a leading coefficient below 0: -x^2+1 less x/2 times -2x is 1
        expectSigns("-x^2+1", Due.withPolynomial(1, 0, -1), 2, 0, -1);
        expectSigns("-x^2-1", Due.withPolynomial(-1, 0, -1), 2, 0, 1);
        expectSigns("x^4+x, -3x/4", Due.withPolynomial(0, 1, 0, 0, 1), 2, -1, 1, 0, -1);
        expectSigns("x^4+x, -1", Due.withPolynomial(0, 1, 0, 0, 1), 3, 0, -1);
        expectSigns("-x^4-x, 3x/4", Due.withPolynomial(0, -1, 0, 0, -1), 2, -1, -1, 0, 1);
        expectSigns("-x^4-x, 1", Due.withPolynomial(0, -1, 0, 0, -1), 3, 0, 1);
        expectSigns("(x-1)^2 (x+1), 8(x-1)/9", Due.withPolynomial(1, -1, -1, 1), 2, 0, -1, 0, 1);
    }

    private static void promise30GreatestAndLeastPlace() {
        RootDuel duel = Due.withPolynomial(-20, 1);
        Due.is("rowSign(0, 20)", duel.rowSign(0, 20), 0);
        Due.is("rowSign(0, 19)", duel.rowSign(0, 19), -1);
        Due.is("rowSign(0, -20)", duel.rowSign(0, -20), -1);
        Due.is("rowSign(0, -20) of x + 20", Due.withPolynomial(20, 1).rowSign(0, -20), 0);
    }

    private static void promise30RowsWithoutRounding() {
        long seed = 20260712;
        for (int i = 0; i < 4000; i++) {
            int[] coefficients = new int[5];
            for (int power = 0; power < 5; power++) {
                seed = seed * 6364136223846793005L + 1442695040888963407L;
                int draw = (int) (seed >>> 40);
                int great = draw % 2 == 0 ? 30 - draw / 2 % 3 : -30 + draw / 2 % 3;
                coefficients[power] = i % 2 == 0 ? great : draw % 61 - 30;
            }
            compareRows(coefficients);
        }
    }

    private static void promise30RowsOfSmallCoefficients() {
        for (int i = 0; i < 3125; i++) {
            int[] small = new int[5];
            for (int power = 0, rest = i; power < 5; power++, rest /= 5) {
                small[power] = rest % 5 - 2;
            }
            compareRows(small);
        }
    }

    // ---- promise 31

    private static void promise31RuleOrPlaceOutOfRange() {
        int[] rules = {-1, 0, 3, Integer.MIN_VALUE, Integer.MAX_VALUE};
        for (RootDuel duel : new RootDuel[] {new RootDuel(), Due.withPolynomial(-2, 0, 1)}) {
            for (int rule : rules) {
                Due.throwsArgument("changes(" + rule + ", 0)", () -> duel.changes(rule, 0));
            }
            for (int x : NO_PLACES) {
                Due.throwsArgument("changes(1, " + x + ")", () -> duel.changes(1, x));
                Due.throwsArgument("changes(2, " + x + ")", () -> duel.changes(2, x));
            }
        }
    }

    private static void promise31NothingIfPIs0() {
        RootDuel duel = new RootDuel();
        Due.is("changes(1, 0)", duel.changes(1, 0), 0);
        Due.is("changes(2, 0)", duel.changes(2, 0), 0);
        Due.is("changes(1, 20)", duel.changes(1, 20), 0);
        Due.is("changes(2, -20)", duel.changes(2, -20), 0);
    }

    private static void expectChanges(String name, RootDuel duel, int rule, int from, int... changes) {
        for (int i = 0; i < changes.length; i++) {
            Due.is(name + ": changes(" + rule + ", " + (from + i) + ")", duel.changes(rule, from + i), changes[i]);
        }
    }

    private static void promise31BothRules() {
        expectChanges("-4", Due.withPolynomial(-4), 1, -1, 0, 0, 0);
        expectChanges("-4", Due.withPolynomial(-4), 2, -1, 0, 0, 0);
        expectChanges("x^2-x+1", Due.withPolynomial(1, -1, 1), 1, 0, 1, 1);
        expectChanges("x^2-x+1", Due.withPolynomial(1, -1, 1), 2, 0, 2, 0);
        expectChanges("x^4+1", Due.withPolynomial(1, 0, 0, 0, 1), 1, -1, 1, 1, 1);
        expectChanges("x^4+1", Due.withPolynomial(1, 0, 0, 0, 1), 2, -1, 4, 0, 0);
    }

    private static void promise31ZerosAreLeftOut() {
        expectChanges("-2x+4", Due.withPolynomial(4, -2), 1, 1, 1, 0, 0);
        expectChanges("x^3-x", Due.withPolynomial(0, -1, 0, 1), 1, -2, 3, 2, 1, 0, 0);
        expectChanges("x^3-x", Due.withPolynomial(0, -1, 0, 1), 2, -2, 3, 2, 1, 0, 0);
        expectChanges("x^4", Due.withPolynomial(0, 0, 0, 0, 1), 2, -1, 4, 0, 0);
        expectChanges("x^4", Due.withPolynomial(0, 0, 0, 0, 1), 1, -1, 1, 0, 0);
        // 1, 0, 1 at 0: a zero between two signs is left out, and so between two that differ
        expectChanges("x^2+1", Due.withPolynomial(1, 0, 1), 2, 0, 0);
        expectChanges("x^2-1", Due.withPolynomial(-1, 0, 1), 2, 0, 1);
    }

    private static void promise31AtAMultipleRootAllRowsAre0() {
        expectChanges("(x-1)^2 (x+1)", Due.withPolynomial(1, -1, -1, 1), 1, -2, 2, 1, 1, 0, 0);
        expectChanges("(x-1)^4", Due.withPolynomial(1, -4, 6, -4, 1), 1, 0, 1, 0, 0);
    }

    private static void promise31GreatestAndLeastPlace() {
        expectChanges("x-20", Due.withPolynomial(-20, 1), 1, 18, 1, 1, 0);
        expectChanges("x-20", Due.withPolynomial(-20, 1), 2, 18, 1, 1, 0);
        expectChanges("x+20", Due.withPolynomial(20, 1), 1, -20, 0, 0);
        expectChanges("x+19", Due.withPolynomial(19, 1), 2, -20, 1, 0);
    }

    // ---- promise 32

    private static void promise32EndsOutOfRange() {
        int[][] wrong = {{-21, 0}, {20, 21}, {20, 20}, {0, 21}, {0, 0}, {1, 0}, {-20, -20}, {-20, -21},
            {Integer.MIN_VALUE, 0}, {0, Integer.MAX_VALUE}, {Integer.MAX_VALUE, Integer.MIN_VALUE}};
        for (RootDuel duel : new RootDuel[] {new RootDuel(), Due.withPolynomial(-2, 0, 1)}) {
            for (int[] one : wrong) {
                Due.throwsArgument("surplus(" + one[0] + ", " + one[1] + ")", () -> duel.surplus(one[0], one[1]));
            }
        }
    }

    private static void promise32NoneIfPIs0() {
        Due.is("surplus(-20, 20)", new RootDuel().surplus(-20, 20), NONE);
        Due.is("surplus(0, 1) of zeros", Due.withPolynomial(0, 0, 0, 0, 0).surplus(0, 1), NONE);
    }

    private static void promise32Differences() {
        Due.is("a constant", Due.withPolynomial(-4).surplus(-20, 20), 0);
        Due.is("x^2-x+1", Due.withPolynomial(1, -1, 1).surplus(0, 1), 2);
        Due.is("x^2-x+1", Due.withPolynomial(1, -1, 1).surplus(-20, 0), 0);
        Due.is("x^4+1", Due.withPolynomial(1, 0, 0, 0, 1).surplus(-1, 1), 4);
        Due.is("-x^4-1", Due.withPolynomial(-1, 0, 0, 0, -1).surplus(-1, 0), 4);
        Due.is("x^4+1", Due.withPolynomial(1, 0, 0, 0, 1).surplus(0, 1), 0);
        Due.is("x^3-1", Due.withPolynomial(-1, 0, 0, 1).surplus(-1, 1), 2);
        Due.is("x^3-1", Due.withPolynomial(-1, 0, 0, 1).surplus(0, 1), 0);
        Due.is("x^2-2", Due.withPolynomial(-2, 0, 1).surplus(-20, 20), 0);
    }

    private static void promise32RootsCountAsOftenAsTheirMultiplicity() {
        Due.is("x^4", Due.withPolynomial(0, 0, 0, 0, 1).surplus(-1, 1), 0);
        Due.is("(x^2-2)^2", Due.withPolynomial(4, 0, -4, 0, 1).surplus(-20, 20), 0);
        Due.is("(x^2-2)^2", Due.withPolynomial(4, 0, -4, 0, 1).surplus(0, 2), 0);
        Due.is("x (x-1)^3", Due.withPolynomial(0, -1, 3, -3, 1).surplus(-1, 1), 0);
        Due.is("x^2 (x^2+1)", Due.withPolynomial(0, 0, 1, 0, 1).surplus(-1, 1), 2);
        Due.is("(x^2+1)^2", Due.withPolynomial(1, 0, 2, 0, 1).surplus(-1, 1), 4);
    }

    private static void promise32RootsAtTheEnds() {
        Due.is("x^4 at b", Due.withPolynomial(0, 0, 0, 0, 1).surplus(-1, 0), 0);
        Due.is("x^4 at a", Due.withPolynomial(0, 0, 0, 0, 1).surplus(0, 1), 0);
        Due.is("(x+1)^4 at b", Due.withPolynomial(1, 4, 6, 4, 1).surplus(-20, -1), 0);
        Due.is("(x+1)^4 at a", Due.withPolynomial(1, 4, 6, 4, 1).surplus(-1, 20), 0);
        Due.is("x-20 at b", Due.withPolynomial(-20, 1).surplus(19, 20), 0);
        Due.is("x+20 at a", Due.withPolynomial(20, 1).surplus(-20, -19), 0);
    }

    private static void promise32NeverBelow0AndEven() {
        for (int i = 0; i < 625; i++) {
            RootDuel duel = Due.withPolynomial(i % 5 - 2, i / 5 % 5 - 2, i / 25 % 5 - 2, i / 125 - 2, 1);
            for (int a = -3; a < 3; a++) {
                int surplus = duel.surplus(a, a + 1);
                Due.is("surplus(" + a + ", " + (a + 1) + ") of " + i, surplus >= 0 && surplus % 2 == 0 ? 1 : 0, 1);
            }
        }
    }

    // ---- rows of whole numbers without a bound

    private static void compareRows(int[] coefficients) {
        RootDuel duel = Due.withPolynomial(coefficients);
        String name = Arrays.toString(coefficients);
        List<BigInteger[]> rows = rowsOf(coefficients);
        Due.is(name + ": rows()", duel.rows(), rows.size());
        for (int row = 0; row < rows.size() && row < duel.rows(); row++) {
            Due.is(name + ": rowDegree(" + row + ")", duel.rowDegree(row), rows.get(row).length - 1);
            for (int x = -20; x <= 20; x += 5) {
                Due.is(name + ": rowSign(" + row + ", " + x + ")", duel.rowSign(row, x), signOf(rows.get(row), x));
            }
        }
    }

    private static List<BigInteger[]> rowsOf(int[] coefficients) {
        List<BigInteger[]> rows = new ArrayList<>();
        BigInteger[] whole = new BigInteger[coefficients.length];
        BigInteger[] derived = new BigInteger[coefficients.length - 1];
        for (int i = 0; i < whole.length; i++) {
            whole[i] = BigInteger.valueOf(coefficients[i]);
            if (i > 0) {
                derived[i - 1] = BigInteger.valueOf((long) i * coefficients[i]);
            }
        }
        BigInteger[] next = trimmed(whole);
        for (int row = 0; next.length > 0; row++) {
            rows.add(next);
            next = row == 0 ? trimmed(derived) : nextRow(rows.get(row - 1), rows.get(row));
        }
        return rows;
    }

    private static BigInteger[] nextRow(BigInteger[] dividend, BigInteger[] divisor) {
        BigInteger[] rest = dividend.clone();
        BigInteger lead = divisor[divisor.length - 1];
        for (int top = rest.length - 1; top >= divisor.length - 1; top--) {
            BigInteger factor = rest[top];
            for (int i = 0; i < rest.length; i++) {
                rest[i] = rest[i].multiply(lead).multiply(lead);
            }
            for (int i = 0; i < divisor.length; i++) {
                int at = top - divisor.length + 1 + i;
                rest[at] = rest[at].subtract(factor.multiply(lead).multiply(divisor[i]));
            }
        }
        for (int i = 0; i < rest.length; i++) {
            rest[i] = rest[i].negate();
        }
        return trimmed(rest);
    }

    private static BigInteger[] trimmed(BigInteger[] coefficients) {
        int length = coefficients.length;
        while (length > 0 && coefficients[length - 1].signum() == 0) {
            length--;
        }
        return Arrays.copyOf(coefficients, length);
    }

    private static int signOf(BigInteger[] coefficients, int x) {
        BigInteger sum = BigInteger.ZERO;
        for (int i = coefficients.length - 1; i >= 0; i--) {
            sum = sum.multiply(BigInteger.valueOf(x)).add(coefficients[i]);
        }
        return sum.signum();
    }
}
