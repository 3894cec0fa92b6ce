import java.math.BigInteger;
import java.util.ArrayList;
import java.util.Arrays;
import java.util.List;

/** Promises 28 to 32: the rows of both rules, their changes, and the surplus. */
public final class SignRowsTest {
    public static void main(String[] args) {
        wrongArguments();
        nothing();
        shortRows();
        multipleRoot();
        missingDegrees();
        changes();
        surplus();
        surplusOfMultipleRoots();
        exactRows();
        Due.end("SignRowsTest");
    }

    private static void wrongArguments() {
        RootDuel duel = Due.withPolynomial(-2, 0, 1);
        Due.throwsIndex("rowDegree(-1)", () -> duel.rowDegree(-1));
        Due.throwsIndex("rowDegree(3)", () -> duel.rowDegree(3));
        Due.throwsIndex("rowSign(-1, 0)", () -> duel.rowSign(-1, 0));
        Due.throwsIndex("rowSign(3, 21)", () -> duel.rowSign(3, 21));
        Due.throwsArgument("rowSign(2, 21)", () -> duel.rowSign(2, 21));
        Due.throwsArgument("rowSign(2, -21)", () -> duel.rowSign(2, -21));
        Due.throwsArgument("changes(0, 0)", () -> duel.changes(0, 0));
        Due.throwsArgument("changes(3, 0)", () -> duel.changes(3, 0));
        Due.throwsArgument("changes(1, 21)", () -> duel.changes(1, 21));
        Due.throwsArgument("changes(2, -21)", () -> duel.changes(2, -21));
        Due.throwsArgument("surplus(-21, 0)", () -> duel.surplus(-21, 0));
        Due.throwsArgument("surplus(0, 21)", () -> duel.surplus(0, 21));
        Due.throwsArgument("surplus(0, 0)", () -> duel.surplus(0, 0));
        Due.throwsArgument("surplus(1, 0)", () -> duel.surplus(1, 0));
    }

    private static void nothing() {
        RootDuel duel = new RootDuel();
        Due.is("rows", duel.rows(), 0);
        Due.throwsIndex("rowDegree(0)", () -> duel.rowDegree(0));
        Due.throwsIndex("rowSign(0, 0)", () -> duel.rowSign(0, 0));
        Due.is("changes(1, 0)", duel.changes(1, 0), 0);
        Due.is("changes(2, 0)", duel.changes(2, 0), 0);
        Due.throwsArgument("changes(0, 0)", () -> duel.changes(0, 0));
        Due.is("surplus(-20, 20)", duel.surplus(-20, 20), RootDuel.NONE);
        Due.throwsArgument("surplus(0, 0)", () -> duel.surplus(0, 0));
    }

    private static void shortRows() {
        RootDuel duel = Due.withPolynomial(-4);
        Due.is("-4: rows", duel.rows(), 1);
        Due.is("-4: rowDegree(0)", duel.rowDegree(0), 0);
        Due.is("-4: rowSign(0, 20)", duel.rowSign(0, 20), -1);
        Due.is("-4: changes(1, 3)", duel.changes(1, 3), 0);
        Due.is("-4: changes(2, 3)", duel.changes(2, 3), 0);
        Due.is("-4: surplus", duel.surplus(-20, 20), 0);
        duel = Due.withPolynomial(4, -2);
        Due.is("-2x+4: rows", duel.rows(), 2);
        Due.is("-2x+4: rowDegree(1)", duel.rowDegree(1), 0);
        Due.is("-2x+4: rowSign(0, 2)", duel.rowSign(0, 2), 0);
        Due.is("-2x+4: rowSign(1, 2)", duel.rowSign(1, 2), -1);
        Due.is("-2x+4: changes(1, 1)", duel.changes(1, 1), 1);
        Due.is("-2x+4: changes(1, 2)", duel.changes(1, 2), 0);
    }

    private static void multipleRoot() {
        // (x - 1)^2 (x + 1): the rows end with 8/9 (x - 1)
        RootDuel duel = Due.withPolynomial(1, -1, -1, 1);
        Due.is("rows", duel.rows(), 3);
        Due.is("rowDegree(2)", duel.rowDegree(2), 1);
        Due.is("rowSign(2, 0)", duel.rowSign(2, 0), -1);
        Due.is("rowSign(2, 1)", duel.rowSign(2, 1), 0);
        Due.is("rowSign(2, 2)", duel.rowSign(2, 2), 1);
        Due.is("changes(1, -2)", duel.changes(1, -2), 2);
        Due.is("changes(1, -1)", duel.changes(1, -1), 1);
        Due.is("changes(1, 0)", duel.changes(1, 0), 1);
        Due.is("changes(1, 1), all rows 0", duel.changes(1, 1), 0);
        Due.is("changes(1, 2)", duel.changes(1, 2), 0);
        // x^4: two rows
        duel = Due.withPolynomial(0, 0, 0, 0, 1);
        Due.is("x^4: rows", duel.rows(), 2);
        Due.is("x^4: changes(1, -1)", duel.changes(1, -1), 1);
        Due.is("x^4: changes(1, 0)", duel.changes(1, 0), 0);
        Due.is("x^4: changes(2, -1)", duel.changes(2, -1), 4);
        Due.is("x^4: changes(2, 0)", duel.changes(2, 0), 0);
    }

    private static void missingDegrees() {
        // x^4 + x: the remainder falls from degree 3 to 1
        RootDuel duel = Due.withPolynomial(0, 1, 0, 0, 1);
        int[] degrees = {4, 3, 1, 0};
        Due.is("x^4+x: rows", duel.rows(), 4);
        for (int row = 0; row < 4; row++) {
            Due.is("x^4+x: rowDegree", duel.rowDegree(row), degrees[row]);
        }
        Due.is("x^4+x: rowSign(2, 1)", duel.rowSign(2, 1), -1);
        Due.is("x^4+x: rowSign(3, 0)", duel.rowSign(3, 0), -1);
        // x^4 + 1: from 3 to 0; x^3 - 1: from 2 to 0
        duel = Due.withPolynomial(1, 0, 0, 0, 1);
        Due.is("x^4+1: rows", duel.rows(), 3);
        Due.is("x^4+1: rowDegree(2)", duel.rowDegree(2), 0);
        Due.is("x^4+1: rowSign(2, 0)", duel.rowSign(2, 0), -1);
        duel = Due.withPolynomial(-1, 0, 0, 1);
        Due.is("x^3-1: rows", duel.rows(), 3);
        Due.is("x^3-1: rowSign(2, 9)", duel.rowSign(2, 9), 1);
    }

    private static void changes() {
        // x^3 - x: both rules
        RootDuel duel = Due.withPolynomial(0, -1, 0, 1);
        int[] first = {3, 2, 1, 0, 0};
        int[] second = {3, 2, 1, 0, 0};
        for (int x = -2; x <= 2; x++) {
            Due.is("changes(1, " + x + ")", duel.changes(1, x), first[x + 2]);
            Due.is("changes(2, " + x + ")", duel.changes(2, x), second[x + 2]);
        }
        // x^2 - x + 1: no roots, but changes of the second rule
        duel = Due.withPolynomial(1, -1, 1);
        Due.is("changes(1, 0)", duel.changes(1, 0), 1);
        Due.is("changes(1, 1)", duel.changes(1, 1), 1);
        Due.is("changes(2, 0)", duel.changes(2, 0), 2);
        Due.is("changes(2, 1)", duel.changes(2, 1), 0);
        Due.is("surplus(0, 1)", duel.surplus(0, 1), 2);
        Due.is("surplus(-20, 0)", duel.surplus(-20, 0), 0);
    }

    private static void surplus() {
        Due.is("x^4+1", Due.withPolynomial(1, 0, 0, 0, 1).surplus(-1, 1), 4);
        Due.is("-x^4-1", Due.withPolynomial(-1, 0, 0, 0, -1).surplus(-1, 0), 4);
        Due.is("x^4+1", Due.withPolynomial(1, 0, 0, 0, 1).surplus(0, 1), 0);
        Due.is("x^3-1", Due.withPolynomial(-1, 0, 0, 1).surplus(-1, 1), 2);
        Due.is("x^3-1", Due.withPolynomial(-1, 0, 0, 1).surplus(0, 1), 0);
        Due.is("x^2-2", Due.withPolynomial(-2, 0, 1).surplus(-20, 20), 0);
    }

    private static void surplusOfMultipleRoots() {
        Due.is("x^4", Due.withPolynomial(0, 0, 0, 0, 1).surplus(-1, 0), 0);
        Due.is("x^4", Due.withPolynomial(0, 0, 0, 0, 1).surplus(0, 1), 0);
        Due.is("(x^2-2)^2", Due.withPolynomial(4, 0, -4, 0, 1).surplus(-20, 20), 0);
        Due.is("(x^2-2)^2", Due.withPolynomial(4, 0, -4, 0, 1).surplus(0, 2), 0);
        Due.is("(x-1)^3 x", Due.withPolynomial(0, -1, 3, -3, 1).surplus(-1, 1), 0);
        Due.is("(x+1)^4", Due.withPolynomial(1, 4, 6, 4, 1).surplus(-20, -1), 0);
        Due.is("x^2 (x^2+1)", Due.withPolynomial(0, 0, 1, 0, 1).surplus(-1, 1), 2);
        Due.is("(x^2+1)^2", Due.withPolynomial(1, 0, 2, 0, 1).surplus(-1, 1), 4);
    }

    // ---- rows compared with those of whole numbers without bound

    private static void exactRows() {
        long seed = 20260712;
        for (int i = 0; i < 4000; i++) {
            int[] coefficients = new int[5];
            for (int power = 0; power < 5; power++) {
                seed = seed * 6364136223846793005L + 1442695040888963407L;
                int draw = (int) (seed >>> 40);
                int great = draw % 2 == 0 ? 30 - draw / 2 % 3 : -30 + draw / 2 % 3;
                coefficients[power] = i % 2 == 0 ? great : draw % 61 - 30;
            }
            compareRows(coefficients);
        }
        int[] small = new int[5];
        for (int i = 0; i < 3125; i++) {
            for (int power = 0, rest = i; power < 5; power++, rest /= 5) {
                small[power] = rest % 5 - 2;
            }
            compareRows(small);
        }
    }

    private static void compareRows(int[] coefficients) {
        RootDuel duel = Due.withPolynomial(coefficients);
        String name = Arrays.toString(coefficients);
        List<BigInteger[]> rows = rowsOf(coefficients);
        Due.is(name + ": rows", duel.rows(), rows.size());
        for (int row = 0; row < rows.size() && row < duel.rows(); row++) {
            Due.is(name + ": rowDegree(" + row + ")", duel.rowDegree(row), rows.get(row).length - 1);
            for (int x = -20; x <= 20; x += 5) {
                Due.is(name + ": rowSign(" + row + ", " + x + ")", duel.rowSign(row, x), signOf(rows.get(row), x));
            }
        }
    }

    private static List<BigInteger[]> rowsOf(int[] coefficients) {
        List<BigInteger[]> rows = new ArrayList<>();
        BigInteger[] whole = new BigInteger[coefficients.length];
        BigInteger[] derived = new BigInteger[coefficients.length - 1];
        for (int i = 0; i < whole.length; i++) {
            whole[i] = BigInteger.valueOf(coefficients[i]);
            if (i > 0) {
                derived[i - 1] = BigInteger.valueOf((long) i * coefficients[i]);
            }
        }
        BigInteger[] next = trimmed(whole);
        for (int row = 0; next.length > 0; row++) {
            rows.add(next);
            next = row == 0 ? trimmed(derived) : nextRow(rows.get(row - 1), rows.get(row));
        }
        return rows;
    }

    private static BigInteger[] nextRow(BigInteger[] dividend, BigInteger[] divisor) {
        BigInteger[] rest = dividend.clone();
        BigInteger lead = divisor[divisor.length - 1];
        for (int top = rest.length - 1; top >= divisor.length - 1; top--) {
            BigInteger factor = rest[top];
            for (int i = 0; i < rest.length; i++) {
                rest[i] = rest[i].multiply(lead).multiply(lead);
            }
            for (int i = 0; i < divisor.length; i++) {
                int at = top - divisor.length + 1 + i;
                rest[at] = rest[at].subtract(factor.multiply(lead).multiply(divisor[i]));
            }
        }
        for (int i = 0; i < rest.length; i++) {
            rest[i] = rest[i].negate();
        }
        return trimmed(rest);
    }

    private static BigInteger[] trimmed(BigInteger[] coefficients) {
        int length = coefficients.length;
        while (length > 0 && coefficients[length - 1].signum() == 0) {
            length--;
        }
        return Arrays.copyOf(coefficients, length);
    }

    private static int signOf(BigInteger[] coefficients, int x) {
        BigInteger sum = BigInteger.ZERO;
        for (int i = coefficients.length - 1; i >= 0; i--) {
            sum = sum.multiply(BigInteger.valueOf(x)).add(coefficients[i]);
        }
        return sum.signum();
    }
}
