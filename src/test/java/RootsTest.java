/** Promises 20 to 27: the degree, values, and roots. */
public final class RootsTest {
    public static void main(String[] args) {
        wrongArguments();
        nothing();
        constants();
        degrees();
        values();
        simpleRoots();
        multipleRoots();
        rootsOutside();
        signs();
        multiplicities();
        near();
        nearAndRootAgree();
        closeRoots();
        Due.end("RootsTest");
    }

    private static void wrongArguments() {
        for (RootDuel duel : new RootDuel[] {new RootDuel(), Due.withPolynomial(-2, 0, 1)}) {
            Due.throwsArgument("value(21)", () -> duel.value(21));
            Due.throwsArgument("value(-21)", () -> duel.value(-21));
            Due.throwsArgument("roots(-21, 0)", () -> duel.roots(-21, 0));
            Due.throwsArgument("roots(0, 21)", () -> duel.roots(0, 21));
            Due.throwsArgument("roots(20, 21)", () -> duel.roots(20, 21));
            Due.throwsArgument("roots(20, 20)", () -> duel.roots(20, 20));
            Due.throwsArgument("roots(3, 3)", () -> duel.roots(3, 3));
            Due.throwsArgument("roots(3, 2)", () -> duel.roots(3, 2));
            Due.throwsArgument("rootsOfSign(2)", () -> duel.rootsOfSign(2));
            Due.throwsArgument("rootsOfSign(-2)", () -> duel.rootsOfSign(-2));
            Due.throwsArgument("multiplicity(21)", () -> duel.multiplicity(21));
            Due.throwsArgument("multiplicity(-21)", () -> duel.multiplicity(-21));
            Due.throwsIndex("near(-1, 0)", () -> duel.near(-1, 0));
            Due.throwsIndex("near(2, 7)", () -> duel.near(2, 7));
            Due.throwsIndex("near(2, 0)", () -> duel.near(2, 0));
            Due.throwsIndex("root(-1)", () -> duel.root(-1));
            Due.throwsIndex("root(2)", () -> duel.root(2));
        }
        RootDuel duel = Due.withPolynomial(-2, 0, 1);
        Due.throwsArgument("near(1, 7)", () -> duel.near(1, 7));
        Due.throwsArgument("near(0, -1)", () -> duel.near(0, -1));
    }

    private static void nothing() {
        RootDuel duel = new RootDuel();
        Due.is("degree", duel.degree(), RootDuel.NONE);
        Due.is("value", duel.value(7), 0);
        Due.is("roots", duel.roots(-20, 20), RootDuel.NONE);
        Due.is("allRoots", duel.allRoots(), RootDuel.NONE);
        for (int sign = -1; sign <= 1; sign++) {
            Due.is("rootsOfSign", duel.rootsOfSign(sign), RootDuel.NONE);
        }
        Due.is("multiplicity", duel.multiplicity(0), RootDuel.NONE);
        Due.throwsIndex("near", () -> duel.near(0, 0));
        Due.throwsIndex("root", () -> duel.root(0));
        RootDuel zeros = Due.withPolynomial(0, 0, 0, 0, 0);
        Due.is("degree of zeros", zeros.degree(), RootDuel.NONE);
        Due.is("allRoots of zeros", zeros.allRoots(), RootDuel.NONE);
    }

    private static void constants() {
        RootDuel duel = Due.withPolynomial(-7);
        Due.is("degree", duel.degree(), 0);
        Due.is("value", duel.value(-20), -7);
        Due.is("roots", duel.roots(-20, 20), 0);
        Due.is("allRoots", duel.allRoots(), 0);
        Due.is("rootsOfSign", duel.rootsOfSign(0), 0);
        Due.is("rootsOfSign", duel.rootsOfSign(-1), 0);
        Due.is("multiplicity", duel.multiplicity(0), 0);
        Due.throwsIndex("near", () -> duel.near(0, 0));
        Due.throwsIndex("root", () -> duel.root(0));
    }

    private static void degrees() {
        for (int power = 0; power < 5; power++) {
            int[] coefficients = new int[5];
            coefficients[power] = power % 2 == 0 ? 3 : -3;
            coefficients[0] = power == 0 ? 3 : 1;
            Due.is("degree", Due.withPolynomial(coefficients).degree(), power);
        }
        RootDuel duel = Due.withPolynomial(1, 0, 0, 0, 5);
        duel.lay(-5, 4);
        Due.is("degree behind a term", duel.degree(), 0);
    }

    private static void values() {
        RootDuel duel = Due.withPolynomial(30, -30, 30, -30, 30);
        Due.is("value(-20)", duel.value(-20), 30L * (160000 + 8000 + 400 + 20 + 1));
        Due.is("value(20)", duel.value(20), 30L * (160000 - 8000 + 400 - 20 + 1));
        Due.is("value(0)", duel.value(0), 30);
        Due.is("value(1)", duel.value(1), 30);
        duel = Due.withPolynomial(1, 2, 3, 4, 5);
        Due.is("value(10)", duel.value(10), 54321);
        Due.is("value(-10)", duel.value(-10), 50000 - 4000 + 300 - 20 + 1);
    }

    private static void simpleRoots() {
        // (x + 2)(x + 1)(x - 1)(x - 3)
        RootDuel duel = Due.withPolynomial(6, 1, -7, -1, 1);
        int[] roots = {-2, -1, 1, 3};
        for (int a = -20; a < 20; a++) {
            for (int b = a + 1; b <= 20; b++) {
                int want = 0;
                for (int root : roots) {
                    want += root > a && root <= b ? 1 : 0;
                }
                Due.is("roots(" + a + ", " + b + ")", duel.roots(a, b), want);
            }
        }
        Due.is("allRoots", duel.allRoots(), 4);
        Due.is("x^2 + 1", Due.withPolynomial(1, 0, 1).allRoots(), 0);
        Due.is("-x^2 - 1", Due.withPolynomial(-1, 0, -1).allRoots(), 0);
        Due.is("x^3 - 2", Due.withPolynomial(-2, 0, 0, 1).allRoots(), 1);
        Due.is("x^4 + x + 1", Due.withPolynomial(1, 1, 0, 0, 1).allRoots(), 0);
        Due.is("30x - 30", Due.withPolynomial(-30, 30).roots(0, 1), 1);
    }

    private static void multipleRoots() {
        int[][] cases = {
            {0, 0, 0, 0, 1, /* all */ 1, /* -1 to 0 */ 1, /* 0 to 1 */ 0},
            {0, 0, 0, 5, 0, 1, 1, 0},
            {0, 0, 1, -2, 1, 2, 1, 1},
            {0, 0, -1, 1, 0, 2, 1, 1},
            {0, -1, 3, -3, 1, 2, 1, 1},
            {1, -2, 1, 0, 0, 1, 0, 1},
            {1, 4, 6, 4, 1, 1, 0, 0},
            {1, 0, 2, 0, 1, 0, 0, 0},
            {4, 0, -4, 0, 1, 2, 0, 0},
            {0, 0, 1, 0, 1, 1, 1, 0},
            {-1, 1, 1, -1, 0, 2, 0, 1},
        };
        for (int[] one : cases) {
            RootDuel duel = Due.withPolynomial(one[0], one[1], one[2], one[3], one[4]);
            String name = Due.polynomialOf(duel);
            Due.is(name + ": allRoots", duel.allRoots(), one[5]);
            Due.is(name + ": roots(-1, 0)", duel.roots(-1, 0), one[6]);
            Due.is(name + ": roots(0, 1)", duel.roots(0, 1), one[7]);
            Due.is(name + ": roots(-1, 1)", duel.roots(-1, 1), one[6] + one[7]);
        }
    }

    private static void rootsOutside() {
        RootDuel duel = Due.withPolynomial(30, 1);
        Due.is("x + 30: allRoots", duel.allRoots(), 1);
        Due.is("x + 30: roots", duel.roots(-20, 20), 0);
        Due.is("x + 30: rootsOfSign(-1)", duel.rootsOfSign(-1), 1);
        Due.is("x + 30: near(0, 0)", duel.near(0, 0), -31);
        Due.is("x + 30: near(0, 6)", duel.near(0, 6), -30 * 64 - 1);
        duel = Due.withPolynomial(-30, -30, -30, -30, 1);
        Due.is("allRoots", duel.allRoots(), 2);
        Due.is("roots", duel.roots(-20, 20), 1);
        Due.is("near(1, 0)", duel.near(1, 0), 30);
        Due.is("near(1, 6)", duel.near(1, 6), 1983);
        duel = Due.withPolynomial(-30, 30, -30, 30, 1);
        Due.is("near(0, 0)", duel.near(0, 0), -31);
        Due.is("near(0, 6)", duel.near(0, 6), -1984);
    }

    private static void signs() {
        int[][] cases = {
            {0, 0, 1, 0, 0, 0, 1, 0},
            {0, -1, 0, 1, 0, 1, 1, 1},
            {6, 1, -7, -1, 1, 2, 0, 2},
            {2, -3, 1, 0, 0, 0, 0, 2},
            {2, 3, 1, 0, 0, 2, 0, 0},
            {1, 2, 1, 0, 0, 1, 0, 0},
            {0, 0, 0, -30, 1, 0, 1, 1},
            {0, 0, 0, 30, 1, 1, 1, 0},
            {9, 0, 0, 0, 0, 0, 0, 0},
        };
        for (int[] one : cases) {
            RootDuel duel = Due.withPolynomial(one[0], one[1], one[2], one[3], one[4]);
            for (int sign = -1; sign <= 1; sign++) {
                Due.is(Due.polynomialOf(duel) + ": rootsOfSign(" + sign + ")", duel.rootsOfSign(sign), one[6 + sign]);
            }
        }
    }

    private static void multiplicities() {
        RootDuel duel = Due.withPolynomial(0, 0, 0, 0, -3);
        Due.is("-3x^4", duel.multiplicity(0), 4);
        Due.is("-3x^4 at 1", duel.multiplicity(1), 0);
        duel = Due.withPolynomial(1, 4, 6, 4, 1);
        Due.is("(x + 1)^4", duel.multiplicity(-1), 4);
        duel = Due.withPolynomial(-8, 12, -6, 1);
        Due.is("(x - 2)^3", duel.multiplicity(2), 3);
        duel = Due.withPolynomial(0, 0, -1, 1);
        Due.is("x^3 - x^2 at 0", duel.multiplicity(0), 2);
        Due.is("x^3 - x^2 at 1", duel.multiplicity(1), 1);
        Due.is("x^3 - x^2 at -20", duel.multiplicity(-20), 0);
        duel = Due.withPolynomial(-20, 1);
        Due.is("x - 20 at 20", duel.multiplicity(20), 1);
    }

    private static void near() {
        RootDuel whole = Due.withPolynomial(-3, 1);
        for (int places = 0; places <= 6; places++) {
            Due.is("x - 3, places " + places, whole.near(0, places), 3 * (1 << places) - 1);
        }
        RootDuel two = Due.withPolynomial(-2, 0, 1);
        int[] low = {-2, -3, -6, -12, -23, -46, -91};
        int[] high = {1, 2, 5, 11, 22, 45, 90};
        for (int places = 0; places <= 6; places++) {
            Due.is("x^2 - 2, least, places " + places, two.near(0, places), low[places]);
            Due.is("x^2 - 2, greatest, places " + places, two.near(1, places), high[places]);
        }
        RootDuel zero = Due.withPolynomial(0, 0, 4);
        Due.is("4x^2", zero.near(0, 0), -1);
        Due.is("4x^2", zero.near(0, 6), -1);
        RootDuel half = Due.withPolynomial(-1, 2);
        Due.is("2x - 1", half.near(0, 0), 0);
        Due.is("2x - 1", half.near(0, 1), 0);
        Due.is("2x - 1", half.near(0, 2), 1);
        RootDuel minusHalf = Due.withPolynomial(1, 4, 4);
        Due.is("4x^2 + 4x + 1", minusHalf.near(0, 0), -1);
        Due.is("4x^2 + 4x + 1", minusHalf.near(0, 1), -2);
        Due.isDouble("root of 2x - 1", half.root(0), 63.0 / 128);
        Due.isDouble("root of x^2 - 2", two.root(1), 181.0 / 128);
        Due.isDouble("root of x^2 - 2", two.root(0), -181.0 / 128);
        Due.isDouble("root of 4x^2", zero.root(0), -1.0 / 128);
        Due.isDouble("root of x - 3", whole.root(0), 383.0 / 128);
    }

    private static void nearAndRootAgree() {
        RootDuel duel = Due.withPolynomial(6, 1, -7, -1, 1);
        int[] roots = {-2, -1, 1, 3};
        for (int index = 0; index < 4; index++) {
            for (int places = 0; places <= 6; places++) {
                Due.is("near(" + index + ", " + places + ")", duel.near(index, places), roots[index] * (1 << places) - 1);
            }
            Due.isDouble("root(" + index + ")", duel.root(index), (2.0 * duel.near(index, 6) + 1) / 128);
        }
    }

    private static void closeRoots() {
        // (5x - 1)(6x - 1): both roots are in (0, 1], at 1/5 and 1/6
        RootDuel duel = Due.withPolynomial(1, -11, 30);
        int[] low = {0, 0, 0, 1, 2, 5, 10};
        int[] high = {0, 0, 0, 1, 3, 6, 12};
        for (int places = 0; places <= 6; places++) {
            Due.is("1/6, places " + places, duel.near(0, places), low[places]);
            Due.is("1/5, places " + places, duel.near(1, places), high[places]);
        }
        Due.is("roots(0, 1)", duel.roots(0, 1), 2);
        Due.is("rootsOfSign(1)", duel.rootsOfSign(1), 2);
    }
}
