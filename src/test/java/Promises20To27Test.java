/** The degree, values, and roots of P. */
public final class Promises20To27Test {
    private static final int NONE = RootDuel.NONE;
    private static final int[] NO_PLACES = {-21, 21, Integer.MIN_VALUE, Integer.MAX_VALUE};
    private static final int[][] NO_INTERVALS = {
        {-21, 0}, {-21, -20}, {20, 21}, {20, 20}, {0, 21}, {3, 3}, {3, 2}, {19, 19}, {-20, -20}, {-20, -21},
        {Integer.MIN_VALUE, 0}, {0, Integer.MIN_VALUE}, {0, Integer.MAX_VALUE}, {Integer.MAX_VALUE, Integer.MIN_VALUE},
        {Integer.MIN_VALUE, Integer.MAX_VALUE},
    };

    public static void main(String[] args) {
        Due.all(Promises20To27Test.class);
    }

    /** P = 0 in three ways: a new object, just zeros told, and behind undo of a term whose roots were told. */
    private static RootDuel[] zeros() {
        RootDuel undone = Due.played("", "lay 1 2;");
        Due.is("roots ahead of undo", undone.allRoots(), 1);
        undone.undo();
        return new RootDuel[] {new RootDuel(), Due.withPolynomial(0, 0, 0, 0, 0), undone};
    }

    // ---- promise 20

    private static void promise20EachDegree() {
        for (int power = 0; power < 5; power++) {
            int[] coefficients = {1, 1, 1, 1, 1};
            for (int above = power + 1; above < 5; above++) {
                coefficients[above] = 0;
            }
            Due.is("degree()", Due.withPolynomial(coefficients).degree(), power);
            int[] alone = new int[5];
            alone[power] = -30;
            Due.is("degree() with one term", Due.withPolynomial(alone).degree(), power);
        }
    }

    private static void promise20NoneIfPIs0() {
        for (RootDuel duel : zeros()) {
            Due.is("degree()", duel.degree(), NONE);
        }
    }

    private static void promise20DegreeFalls() {
        RootDuel duel = Due.withPolynomial(1, 0, 0, 0, 5);
        duel.lay(-5, 4);
        Due.is("degree()", duel.degree(), 0);
        duel.undo();
        Due.is("degree() behind undo", duel.degree(), 4);
    }

    // ---- promise 21

    private static void promise21PlaceOutOfRange() {
        for (RootDuel duel : new RootDuel[] {new RootDuel(), Due.withPolynomial(-2, 0, 1)}) {
            for (int x : NO_PLACES) {
                Due.throwsArgument("value(" + x + ")", () -> duel.value(x));
            }
        }
    }

    private static void promise21Values() {
        RootDuel duel = Due.withPolynomial(1, 2, 3, 4, 5);
        Due.is("value(10)", duel.value(10), 54321);
        Due.is("value(-10)", duel.value(-10), 50000 - 4000 + 300 - 20 + 1);
        Due.is("value(0)", duel.value(0), 1);
        Due.is("value(1)", duel.value(1), 15);
        Due.is("value(-1)", duel.value(-1), 3);
    }

    private static void promise21GreatestAndLeastPlace() {
        RootDuel duel = Due.withPolynomial(30, -30, 30, -30, 30);
        Due.is("value(-20)", duel.value(-20), 30L * (160000 + 8000 + 400 + 20 + 1));
        Due.is("value(20)", duel.value(20), 30L * (160000 - 8000 + 400 - 20 + 1));
        Due.is("least value", Due.withPolynomial(-30, -30, -30, -30, -30).value(20), -5052630L);
    }

    private static void promise21PIs0() {
        for (RootDuel duel : zeros()) {
            Due.is("value(20)", duel.value(20), 0);
            Due.is("value(-20)", duel.value(-20), 0);
        }
    }

    // ---- promise 22

    private static void promise22EndsOutOfRange() {
        for (RootDuel duel : new RootDuel[] {new RootDuel(), Due.withPolynomial(-2, 0, 1)}) {
            for (int[] one : NO_INTERVALS) {
                Due.throwsArgument("roots(" + one[0] + ", " + one[1] + ")", () -> duel.roots(one[0], one[1]));
            }
        }
    }

    private static void promise22NoneIfPIs0() {
        for (RootDuel duel : zeros()) {
            Due.is("roots(-20, 20)", duel.roots(-20, 20), NONE);
            Due.is("roots(0, 1)", duel.roots(0, 1), NONE);
        }
    }

    private static void promise22ConstantsHaveNone() {
        Due.is("7", Due.withPolynomial(7).roots(-20, 20), 0);
        Due.is("-1", Due.withPolynomial(-1).roots(-20, 20), 0);
    }

    private static void promise22EachInterval() {
        // (x + 2)(x + 1)(x - 1)(x - 3)
        int[] roots = {-2, -1, 1, 3};
        for (int a = -5; a < 20; a += a < 4 ? 1 : 5) {
            RootDuel duel = Due.withPolynomial(6, 1, -7, -1, 1);
            for (int b = a + 1; b <= 20; b++) {
                int want = 0;
                for (int root : roots) {
                    want += root > a && root <= b ? 1 : 0;
                }
                Due.is("roots(" + a + ", " + b + ")", duel.roots(a, b), want);
            }
        }
    }

    private static void promise22WidestAndOutermostIntervals() {
        RootDuel duel = Due.withPolynomial(-20, 1);
        Due.is("a root at 20: roots(19, 20)", duel.roots(19, 20), 1);
        Due.is("roots(-20, 20)", duel.roots(-20, 20), 1);
        Due.is("roots(-20, 19)", duel.roots(-20, 19), 0);
        RootDuel least = Due.withPolynomial(20, 1);
        Due.is("a root at -20: roots(-20, -19)", least.roots(-20, -19), 0);
        Due.is("roots(-20, 20)", least.roots(-20, 20), 0);
        RootDuel next = Due.withPolynomial(19, 1);
        Due.is("a root at -19: roots(-20, -19)", next.roots(-20, -19), 1);
        Due.is("beyond", Due.withPolynomial(30, 1).roots(-20, 20), 0);
    }

    /** Multiple roots at an end: coefficients, then all roots, those in (-1, 0] and those in (0, 1]. */
    private static void promise22MultipleRootsCountOnce() {
        int[][] cases = {
            {0, 0, 0, 0, 1, 1, 1, 0}, {0, 0, 0, 5, 0, 1, 1, 0}, {0, 0, 1, -2, 1, 2, 1, 1}, {0, 0, -1, 1, 0, 2, 1, 1},
            {0, -1, 3, -3, 1, 2, 1, 1}, {1, -2, 1, 0, 0, 1, 0, 1}, {1, 4, 6, 4, 1, 1, 0, 0}, {1, 0, 2, 0, 1, 0, 0, 0},
            {4, 0, -4, 0, 1, 2, 0, 0}, {0, 0, 1, 0, 1, 1, 1, 0}, {-1, 1, 1, -1, 0, 2, 0, 1}, {1, -4, 6, -4, 1, 1, 0, 1},
        };
        for (int[] one : cases) {
            RootDuel duel = Due.withPolynomial(one[0], one[1], one[2], one[3], one[4]);
            String name = Due.polynomialOf(duel);
            Due.is(name + ": roots(-20, 20)", duel.roots(-20, 20), one[5]);
            Due.is(name + ": roots(-1, 0)", duel.roots(-1, 0), one[6]);
            Due.is(name + ": roots(0, 1)", duel.roots(0, 1), one[7]);
            Due.is(name + ": roots(-1, 1)", duel.roots(-1, 1), one[6] + one[7]);
        }
    }

    private static void promise22RootsBetweenWholeNumbers() {
        RootDuel duel = Due.withPolynomial(1, -11, 30);
        Due.is("1/5 and 1/6: roots(0, 1)", duel.roots(0, 1), 2);
        Due.is("roots(-1, 0)", duel.roots(-1, 0), 0);
        Due.is("roots(1, 2)", duel.roots(1, 2), 0);
    }

    // ---- promise 23

    private static void promise23NoneIfPIs0() {
        for (RootDuel duel : zeros()) {
            Due.is("allRoots()", duel.allRoots(), NONE);
        }
    }

    private static void promise23EachNumber() {
        Due.is("a constant", Due.withPolynomial(-7).allRoots(), 0);
        Due.is("x^2 + 1", Due.withPolynomial(1, 0, 1).allRoots(), 0);
        Due.is("-x^2 - 1", Due.withPolynomial(-1, 0, -1).allRoots(), 0);
        Due.is("x^4 + x + 1", Due.withPolynomial(1, 1, 0, 0, 1).allRoots(), 0);
        Due.is("x^3 - 2", Due.withPolynomial(-2, 0, 0, 1).allRoots(), 1);
        Due.is("x^2 - 2", Due.withPolynomial(-2, 0, 1).allRoots(), 2);
        Due.is("x^3 - x", Due.withPolynomial(0, -1, 0, 1).allRoots(), 3);
        Due.is("four", Due.withPolynomial(6, 1, -7, -1, 1).allRoots(), 4);
    }

    private static void promise23RootsCountOnce() {
        Due.is("x^4", Due.withPolynomial(0, 0, 0, 0, 1).allRoots(), 1);
        Due.is("(x + 1)^4", Due.withPolynomial(1, 4, 6, 4, 1).allRoots(), 1);
        Due.is("(x^2 - 2)^2", Due.withPolynomial(4, 0, -4, 0, 1).allRoots(), 2);
        Due.is("x^2 (x - 1)^2", Due.withPolynomial(0, 0, 1, -2, 1).allRoots(), 2);
        Due.is("x (x - 1)^3", Due.withPolynomial(0, -1, 3, -3, 1).allRoots(), 2);
        Due.is("x^2 (x - 1)", Due.withPolynomial(0, 0, -1, 1).allRoots(), 2);
    }

    private static void promise23RootsFarOut() {
        Due.is("x + 30", Due.withPolynomial(30, 1).allRoots(), 1);
        Due.is("x - 30", Due.withPolynomial(-30, 1).allRoots(), 1);
        Due.is("a root near 31", Due.withPolynomial(-30, -30, -30, -30, 1).allRoots(), 2);
        Due.is("a root near -31", Due.withPolynomial(-30, 30, -30, 30, 1).allRoots(), 2);
    }

    // ---- promise 24

    private static void promise24SignOutOfRange() {
        int[] signs = {-2, 2, Integer.MIN_VALUE, Integer.MAX_VALUE};
        for (RootDuel duel : new RootDuel[] {new RootDuel(), Due.withPolynomial(-2, 0, 1)}) {
            for (int sign : signs) {
                Due.throwsArgument("rootsOfSign(" + sign + ")", () -> duel.rootsOfSign(sign));
            }
        }
    }

    private static void promise24NoneIfPIs0() {
        for (RootDuel duel : zeros()) {
            for (int sign = -1; sign <= 1; sign++) {
                Due.is("rootsOfSign(" + sign + ")", duel.rootsOfSign(sign), NONE);
            }
        }
    }

    /** Coefficients, then the roots below 0, at 0 and above 0. */
    private static void promise24EachSign() {
        int[][] cases = {
            {0, 0, 1, 0, 0, 0, 1, 0}, {0, -1, 0, 1, 0, 1, 1, 1}, {6, 1, -7, -1, 1, 2, 0, 2}, {2, -3, 1, 0, 0, 0, 0, 2},
            {2, 3, 1, 0, 0, 2, 0, 0}, {1, 2, 1, 0, 0, 1, 0, 0}, {0, 0, 0, -30, 1, 0, 1, 1}, {0, 0, 0, 30, 1, 1, 1, 0},
            {9, 0, 0, 0, 0, 0, 0, 0}, {30, 1, 0, 0, 0, 1, 0, 0}, {-30, 1, 0, 0, 0, 0, 0, 1}, {0, 0, 0, 0, -1, 0, 1, 0},
            {-1, 30, 0, 0, 0, 0, 0, 1}, {1, 30, 0, 0, 0, 1, 0, 0}, {-30, -30, -30, -30, 1, 1, 0, 1},
            {-30, 30, -30, 30, 1, 1, 0, 1},
        };
        for (int[] one : cases) {
            RootDuel duel = Due.withPolynomial(one[0], one[1], one[2], one[3], one[4]);
            for (int sign = -1; sign <= 1; sign++) {
                Due.is(Due.polynomialOf(duel) + ": rootsOfSign(" + sign + ")", duel.rootsOfSign(sign), one[6 + sign]);
            }
        }
    }

    // ---- promise 25

    private static void promise25PlaceOutOfRange() {
        for (RootDuel duel : new RootDuel[] {new RootDuel(), Due.withPolynomial(-2, 0, 1)}) {
            for (int x : NO_PLACES) {
                Due.throwsArgument("multiplicity(" + x + ")", () -> duel.multiplicity(x));
            }
        }
    }

    private static void promise25NoneIfPIs0() {
        for (RootDuel duel : zeros()) {
            Due.is("multiplicity(0)", duel.multiplicity(0), NONE);
            Due.is("multiplicity(20)", duel.multiplicity(20), NONE);
            Due.is("multiplicity(-20)", duel.multiplicity(-20), NONE);
        }
    }

    private static void promise25NoRoot() {
        Due.is("a constant", Due.withPolynomial(-7).multiplicity(0), 0);
        Due.is("x^2 at 1", Due.withPolynomial(0, 0, 1).multiplicity(1), 0);
        // just the derivative is 0 there
        Due.is("x^2 + 1 at 0", Due.withPolynomial(1, 0, 1).multiplicity(0), 0);
    }

    private static void promise25EachMultiplicity() {
        for (int power = 1; power < 5; power++) {
            int[] coefficients = new int[5];
            coefficients[power] = -3;
            Due.is("x^" + power, Due.withPolynomial(coefficients).multiplicity(0), power);
        }
        Due.is("(x + 1)^4", Due.withPolynomial(1, 4, 6, 4, 1).multiplicity(-1), 4);
        Due.is("(x - 2)^3", Due.withPolynomial(-8, 12, -6, 1).multiplicity(2), 3);
        RootDuel duel = Due.withPolynomial(0, 0, -1, 1);
        Due.is("x^3 - x^2 at 0", duel.multiplicity(0), 2);
        Due.is("x^3 - x^2 at 1", duel.multiplicity(1), 1);
        Due.is("x^3 - x^2 at -1", duel.multiplicity(-1), 0);
    }

    private static void promise25GreatestAndLeastPlace() {
        Due.is("x - 20 at 20", Due.withPolynomial(-20, 1).multiplicity(20), 1);
        Due.is("x + 20 at -20", Due.withPolynomial(20, 1).multiplicity(-20), 1);
        Due.is("x + 20 at 20", Due.withPolynomial(20, 1).multiplicity(20), 0);
        Due.is("x^2 - 20x at 20", Due.withPolynomial(0, -20, 1).multiplicity(20), 1);
    }

    // ---- promise 26

    private static void promise26NoSuchRoot() {
        RootDuel duel = Due.withPolynomial(-2, 0, 1);
        int[] none = {-1, 2, 3, Integer.MIN_VALUE, Integer.MAX_VALUE};
        for (int index : none) {
            Due.throwsIndex("near(" + index + ", 0)", () -> duel.near(index, 0));
            Due.throwsIndex("near(" + index + ", 7)", () -> duel.near(index, 7));
        }
        RootDuel constant = Due.withPolynomial(5);
        Due.throwsIndex("near(0, 0) of a constant", () -> constant.near(0, 0));
        RootDuel cubed = Due.withPolynomial(0, 0, 0, 1);
        Due.throwsIndex("near(1, 0) of x^3", () -> cubed.near(1, 0));
    }

    private static void promise26NoneIfPIs0() {
        for (RootDuel duel : zeros()) {
            Due.throwsIndex("near(0, 0)", () -> duel.near(0, 0));
            Due.throwsIndex("near(0, 7)", () -> duel.near(0, 7));
        }
    }

    private static void promise26PlacesOutOfRange() {
        RootDuel duel = Due.withPolynomial(-2, 0, 1);
        int[] wrong = {-1, 7, 8, Integer.MIN_VALUE, Integer.MAX_VALUE};
        for (int places : wrong) {
            Due.throwsArgument("near(1, " + places + ")", () -> duel.near(1, places));
        }
    }

    private static void promise26IrrationalRoots() {
        RootDuel duel = Due.withPolynomial(-2, 0, 1);
        int[] least = {-2, -3, -6, -12, -23, -46, -91};
        int[] greatest = {1, 2, 5, 11, 22, 45, 90};
        for (int places = 0; places <= 6; places++) {
            Due.is("near(0, " + places + ")", duel.near(0, places), least[places]);
            Due.is("near(1, " + places + ")", duel.near(1, places), greatest[places]);
        }
    }

    private static void promise26LessThanTheRoot() {
        RootDuel three = Due.withPolynomial(-3, 1);
        RootDuel twice = Due.withPolynomial(9, -6, 1);
        RootDuel zero = Due.withPolynomial(0, 0, 4);
        for (int places = 0; places <= 6; places++) {
            Due.is("x - 3, places " + places, three.near(0, places), 3 * (1 << places) - 1);
            Due.is("(x - 3)^2, places " + places, twice.near(0, places), 3 * (1 << places) - 1);
            Due.is("4x^2, places " + places, zero.near(0, places), -1);
        }
        RootDuel half = Due.withPolynomial(-1, 2);
        int[] want = {0, 0, 1, 3, 7, 15, 31};
        RootDuel minusHalf = Due.withPolynomial(1, 4, 4);
        int[] below = {-1, -2, -3, -5, -9, -17, -33};
        for (int places = 0; places <= 6; places++) {
            Due.is("2x - 1, places " + places, half.near(0, places), want[places]);
            Due.is("(2x + 1)^2, places " + places, minusHalf.near(0, places), below[places]);
        }
    }

    private static void promise26RootsInOrder() {
        RootDuel duel = Due.withPolynomial(6, 1, -7, -1, 1);
        int[] roots = {-2, -1, 1, 3};
        for (int index = 0; index < 4; index++) {
            for (int places = 0; places <= 6; places++) {
                Due.is("near(" + index + ", " + places + ")", duel.near(index, places), roots[index] * (1 << places) - 1);
            }
        }
        RootDuel turned = Due.withPolynomial(-6, -1, 7, 1, -1);
        Due.is("the least of -P", turned.near(0, 0), -3);
        Due.is("the greatest of -P", turned.near(3, 0), 2);
    }

    private static void promise26RootsNearEachOther() {
        // (5x - 1)(6x - 1): 1/6 and 1/5
        RootDuel duel = Due.withPolynomial(1, -11, 30);
        int[] low = {0, 0, 0, 1, 2, 5, 10};
        int[] high = {0, 0, 0, 1, 3, 6, 12};
        for (int places = 0; places <= 6; places++) {
            Due.is("1/6, places " + places, duel.near(0, places), low[places]);
            Due.is("1/5, places " + places, duel.near(1, places), high[places]);
        }
    }

    private static void promise26RootsFarOut() {
        RootDuel duel = Due.withPolynomial(30, 1);
        Due.is("x + 30", duel.near(0, 0), -31);
        Due.is("x + 30", duel.near(0, 6), -30 * 64 - 1);
        RootDuel great = Due.withPolynomial(-30, -30, -30, -30, 1);
        Due.is("near 31", great.near(1, 0), 30);
        Due.is("near 31", great.near(1, 6), 1983);
        RootDuel least = Due.withPolynomial(-30, 30, -30, 30, 1);
        Due.is("near -31", least.near(0, 0), -31);
        Due.is("near -31", least.near(0, 6), -1984);
    }

    // ---- promise 27

    private static void promise27NoSuchRoot() {
        RootDuel duel = Due.withPolynomial(-2, 0, 1);
        int[] none = {-1, 2, 3, Integer.MIN_VALUE, Integer.MAX_VALUE};
        for (int index : none) {
            Due.throwsIndex("root(" + index + ")", () -> duel.root(index));
        }
        RootDuel constant = Due.withPolynomial(5);
        Due.throwsIndex("root(0) of a constant", () -> constant.root(0));
    }

    private static void promise27NoneIfPIs0() {
        for (RootDuel duel : zeros()) {
            Due.throwsIndex("root(0)", () -> duel.root(0));
        }
    }

    private static void promise27Numbers() {
        RootDuel two = Due.withPolynomial(-2, 0, 1);
        Due.isDouble("the least of x^2 - 2", two.root(0), -181.0 / 128);
        Due.isDouble("the greatest of x^2 - 2", two.root(1), 181.0 / 128);
        Due.isDouble("of 2x - 1", Due.withPolynomial(-1, 2).root(0), 63.0 / 128);
        Due.isDouble("of 4x^2", Due.withPolynomial(0, 0, 4).root(0), -1.0 / 128);
        Due.isDouble("of x - 3", Due.withPolynomial(-3, 1).root(0), 383.0 / 128);
        Due.isDouble("near 31", Due.withPolynomial(-30, -30, -30, -30, 1).root(1), 3967.0 / 128);
        Due.isDouble("near -31", Due.withPolynomial(-30, 30, -30, 30, 1).root(0), -3967.0 / 128);
    }

    private static void promise27AsNearTells() {
        RootDuel duel = Due.withPolynomial(5, -17, -6, 13, 1);
        for (int index = 0; index < duel.allRoots(); index++) {
            Due.isDouble("root(" + index + ")", duel.root(index), (2.0 * duel.near(index, 6) + 1) / 128);
        }
    }
}
