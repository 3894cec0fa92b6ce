"""A second program for ../../../../shared/DOC.md, written from the document alone, in the plainest way.

Undo keeps whole copies, rows are fractions, roots are counted with the rows of the part of P without multiple roots.
runs.py makes the runs of ../data/model-runs.txt with it; .ci/run needs neither.
"""
from copy import deepcopy
from fractions import Fraction
from functools import lru_cache

NONE = -1
FAR = 100  # no root is as far out
SETTINGS = ["powers", "bar", "turns", "reach", "goal", "bonus", "purse"]
RANGES = {"powers": (2, 5), "bar": (0, 9), "turns": (1, 60), "reach": (1, 20), "goal": (0, 4), "bonus": (0, 20),
          "purse": (1, 40)}
FIRST = {"powers": 5, "bar": 2, "turns": 12, "reach": 5, "goal": 0, "bonus": 0, "purse": 12}


class Index(Exception):
    """IndexOutOfBoundsException"""


class Argument(Exception):
    """IllegalArgumentException"""


class Illegal(Exception):
    """IllegalStateException"""


class TextError(Exception):
    def __init__(self, code, position):
        super().__init__()
        self.code = code
        self.position = position


def need(good, exception):
    if not good:
        raise exception


# ---- polynomials: lists of coefficients by rising powers, without zeros at the end

def trim(p):
    p = list(p)
    while p and p[-1] == 0:
        p.pop()
    return p


def derivative(p):
    return trim([i * c for i, c in enumerate(p)][1:])


def value_at(p, x):
    total = 0
    for c in reversed(p):
        total = total * x + c
    return total


def divide(a, b):
    rest = [Fraction(c) for c in a]
    quotient = [Fraction(0)] * max(0, len(rest) - len(b) + 1)
    while rest and len(rest) >= len(b):
        shift = len(rest) - len(b)
        quotient[shift] = rest[-1] / b[-1]
        rest = trim([c - quotient[shift] * (b[i - shift] if i >= shift else 0) for i, c in enumerate(rest)])
    return trim(quotient), rest


def common(a, b):
    while b:
        a, b = b, divide(a, b)[1]
    return a


def first_rule(p):
    rows = []
    last, following = trim(p), derivative(trim(p))
    while last:
        rows.append(last)
        last, following = following, [-c for c in divide(last, following)[1]] if following else []
    return rows


def second_rule(p):
    rows = []
    while p:
        rows.append(p)
        p = derivative(p)
    return rows


def sign(v):
    return (v > 0) - (v < 0)


def changes_at(rows, x):
    signs = [sign(value_at(row, x)) for row in rows if value_at(row, x) != 0]
    return sum(1 for i in range(1, len(signs)) if signs[i] != signs[i - 1])


@lru_cache(maxsize=20000)
def simple_rows(p):
    """The rows of the polynomial with the same roots, each of them simple."""
    p = list(p)
    return first_rule(divide(p, common(p, derivative(p)))[0] if len(p) > 1 else p)


def roots_between(p, a, b):
    rows = simple_rows(tuple(p))
    return changes_at(rows, a) - changes_at(rows, b)


def all_roots(p):
    return roots_between(p, -FAR, FAR)


def counted_between(p, a, b):
    counted = 0
    while len(p) > 1:
        counted += roots_between(p, a, b)
        p = common(p, derivative(p))
    return counted


# ---- texts

def tokens_of(text):
    tokens = []
    at = 0
    while at < len(text):
        start = at
        kinds = [kind for kind in ("abcdefghijklmnopqrstuvwxyz", "0123456789") if chr(text[at]) in kind]
        at += 1
        if kinds:
            while at < len(text) and chr(text[at]) in kinds[0]:
                at += 1
            word = bytes(text[start:at]).decode()
            tokens.append(("number", int(word), start) if word.isdigit() else ("word", word, start))
        elif chr(text[start]) not in " \n":
            tokens.append((chr(text[start]) if chr(text[start]) in "-;" else "wrong", None, start))
    return tokens + [("end", None, len(text))]


class Parser:
    def __init__(self, text):
        self.tokens = tokens_of(text)
        self.at = 0

    def kind(self):
        return self.tokens[self.at][0]

    def told(self):
        return self.tokens[self.at][1]

    def fail(self, code):
        raise TextError(code, self.tokens[self.at][2])

    def word(self, allowed):
        if self.kind() != "word" or self.told() not in allowed:
            self.fail(1)
        return self.told()

    def number(self, good):
        if self.kind() != "number":
            self.fail(1)
        if not good(self.told()):
            self.fail(2)
        self.at += 1
        return self.tokens[self.at - 1][1]

    def integer(self, good):
        if self.kind() != "-":
            return self.number(good)
        self.at += 1
        return -self.number(lambda told: good(-told))

    def semicolon(self):
        if self.kind() != ";":
            self.fail(1)
        self.at += 1


def within(least, most):
    return lambda told: least <= told <= most


class State:
    """All that save() saves."""

    def __init__(self):
        self.settings = dict(FIRST)
        self.p = [0] * 5
        self.turns = []  # ("pass",) or ("lay", coefficient, power)
        self.claims = [[], []]
        self.claimed = False
        self.over = False
        self.bonus = NONE


def setup_of(text):
    parser, state, statements, told, starts = Parser(text), State(), 0, set(), set()
    while parser.kind() != "end":
        word = parser.word([s for s in SETTINGS if s != "bonus"] + ["start"])
        if word in told or (word == "powers" and starts):
            parser.fail(3)
        parser.at += 1
        if word == "start":
            coefficient = parser.integer(within(-30, 30))
            if parser.kind() == "number" and parser.told() in starts:
                parser.fail(4)
            power = parser.number(within(0, state.settings["powers"] - 1))
            starts.add(power)
            state.p[power] = coefficient
        else:
            told.add(word)
            state.settings[word] = parser.number(within(*RANGES[word]))
            if word == "goal":
                state.settings["bonus"] = parser.number(within(*RANGES["bonus"]))
        parser.semicolon()
        statements += 1
    return statements, state


def script_of(text, powers):
    parser, commands = Parser(text), []
    while parser.kind() != "end":
        word = parser.word(["lay", "claim", "pass"])
        if len(commands) == 40:
            parser.fail(5)
        parser.at += 1
        if word == "lay":
            coefficient = parser.integer(lambda told: -9 <= told <= 9 and told != 0)
            commands.append(("lay", coefficient, parser.number(within(0, powers - 1))))
        elif word == "pass":
            commands.append(("pass",))
        else:
            least = parser.word(["exactly", "least"]) == "least"
            parser.at += 1
            a = parser.integer(within(-20, 19))
            b = parser.integer(within(a + 1, 20))
            roots = parser.number(within(0, 4))
            commands.append(("claim", a, b, roots, least, parser.number(within(1, 9))))
        parser.semicolon()
    return commands


class Model:
    def __init__(self):
        self.state = State()
        self.text = []
        self.out = ""
        self.saved = [None, None]
        self.earlier = []
        self.accounts = [0] * 9
        self.error = (0, NONE)

    # ---- texts

    def appendText(self, four):
        need(len(self.text) + 4 <= 600, Illegal)
        self.text += [four >> shift & 255 for shift in (24, 16, 8, 0)]
        return len(self.text)

    def truncateText(self, length):
        need(0 <= length <= len(self.text), Argument)
        self.text = self.text[:length]
        return length

    def read(self, reader, *more):
        text, self.text, self.error = self.text, [], (0, NONE)
        try:
            return reader(text, *more)
        except TextError as e:
            self.error = (e.code, e.position)
            return None

    def load(self):
        read = self.read(setup_of)
        if read is None:
            return NONE
        self.state, self.earlier = read[1], []
        return read[0]

    def play(self):
        commands = self.read(script_of, self.state.settings["powers"])
        if commands is None:
            return NONE
        acts = {"lay": self.lay, "claim": self.claim, "pass": self.pass_}
        for done, command in enumerate(commands):
            if acts[command[0]](*command[1:]) != 0:
                return done
        return len(commands)

    def errorCode(self):
        return self.error[0]

    def errorPosition(self):
        return self.error[1]

    # ---- the contest

    def is_barred(self, power, state=None):
        state = state or self.state
        bar, coming = state.settings["bar"], len(state.turns)
        return any(act[0] == "lay" and act[2] == power and (bar == 0 or t + 1 <= coming <= t + bar)
                   for t, act in enumerate(state.turns))

    def barred(self, state=None):
        state = state or self.state
        return sum(self.is_barred(power, state) for power in range(state.settings["powers"]))

    def count(self, what):
        need(0 <= what <= 15, Argument)
        state = self.state
        if what < 7:
            return state.settings[SETTINGS[what]]
        turns = len(state.turns)
        return [turns, NONE if state.over else turns % 2, int(state.over), self.barred(),
                sum(act[0] == "lay" for act in state.turns), sum(act[0] == "pass" for act in state.turns),
                len(self.earlier), int(state.claimed), state.bonus][what - 7]

    def power(self, power, what):
        need(0 <= power < self.state.settings["powers"], Index)
        need(0 <= what <= 4, Argument)
        laid = [t for t, act in enumerate(self.state.turns) if act[0] == "lay" and act[2] == power]
        return [self.state.p[power], int(self.is_barred(power)), len(laid), laid[-1] if laid else NONE,
                laid[-1] % 2 if laid else NONE][what]

    def is_right(self, claim, state):
        p = trim(state.p)
        if not p:
            return 0
        roots = roots_between(p, claim["a"], claim["b"])
        return int(roots >= claim["roots"] if claim["least"] else roots == claim["roots"])

    def claimOf(self, player, index, what):
        need(player in (0, 1) and index >= 0, Index)
        need(0 <= what <= 6, Argument)
        if index >= len(self.state.claims[player]):
            return NONE
        claim = self.state.claims[player][index]
        return [claim["a"], claim["b"], claim["roots"], int(claim["least"]), claim["stake"],
                self.is_right(claim, self.state), claim["turn"]][what]

    def points(self, player, state):
        """The points of the contest of signs, of the claims, and of the BONUS."""
        reach = state.settings["reach"]
        signs = sum(sign(value_at(state.p, x)) == 1 - 2 * player for x in range(-reach, reach + 1))
        claims = sum(c["stake"] if self.is_right(c, state) else -c["stake"] for c in state.claims[player])
        return [signs, claims, state.settings["bonus"] if state.bonus == player else 0]

    def player(self, player, what):
        need(player in (0, 1), Index)
        need(0 <= what <= 7, Argument)
        claims, points = self.state.claims[player], self.points(player, self.state)
        laid = sum(act[0] == "lay" and t % 2 == player for t, act in enumerate(self.state.turns))
        return [sum(points), *points, len(claims), sum(c["stake"] for c in claims),
                sum(self.is_right(c, self.state) for c in claims), laid][what]

    def winner(self):
        scores = [sum(self.points(player, self.state)) for player in (0, 1)]
        if not self.state.over:
            return NONE
        return 2 if scores[0] == scores[1] else scores.index(max(scores))

    def account(self, what):
        need(0 <= what <= 8, Argument)
        return self.accounts[what]

    # ---- acts

    def settle(self, reason):
        self.accounts[reason] += 1
        if reason == 0:
            self.earlier = (self.earlier + [deepcopy(self.state)])[-12:]
        return reason

    def claim(self, a, b, roots, least, stake):
        need(-20 <= a <= 19 and a + 1 <= b <= 20 and 0 <= roots <= 4 and 1 <= stake <= 9, Argument)
        state = self.state
        own = state.claims[len(state.turns) % 2]
        reasons = [state.over, state.claimed, len(own) == 4, any(a < c["b"] and c["a"] < b for c in own),
                   sum(c["stake"] for c in own) + stake > state.settings["purse"]]
        if self.settle(reasons.index(True) + 1 if True in reasons else 0) == 0:
            own.append({"a": a, "b": b, "roots": roots, "least": least, "stake": stake, "turn": len(state.turns)})
            state.claimed = True
            return 0
        return reasons.index(True) + 1

    def reason(self, coefficient, power):
        state = self.state
        coming = list(state.p)
        coming[power] += coefficient
        reasons = {1: state.over, 6: self.is_barred(power), 7: abs(coming[power]) > 30, 8: not any(coming)}
        return next((reason for reason in (1, 6, 7, 8) if reasons[reason]), 0)

    def need_term(self, coefficient, power):
        need(0 <= power < self.state.settings["powers"], Index)
        need(-9 <= coefficient <= 9 and coefficient != 0, Argument)

    def end_turn(self, state, act):
        player, settings = len(state.turns) % 2, state.settings
        state.turns.append(act)
        state.claimed = False
        if act[0] == "lay":
            state.p[act[2]] += act[1]
            if settings["goal"] > 0 and all_roots(trim(state.p)) >= settings["goal"]:
                state.bonus = player
        state.over = (state.bonus != NONE or len(state.turns) == settings["turns"]
                      or [act[0] for act in state.turns[-2:]] == ["pass", "pass"]
                      or self.barred(state) == settings["powers"])

    def lay(self, coefficient, power):
        self.need_term(coefficient, power)
        reason = self.settle(self.reason(coefficient, power))
        if reason == 0:
            self.end_turn(self.state, ("lay", coefficient, power))
        return reason

    def pass_(self):
        reason = self.settle(1 if self.state.over else 0)
        if reason == 0:
            self.end_turn(self.state, ("pass",))
        return reason

    def why(self, coefficient, power):
        self.need_term(coefficient, power)
        return self.reason(coefficient, power)

    def state_behind(self, coefficient, power):
        state = deepcopy(self.state)
        self.end_turn(state, ("lay", coefficient, power))
        return state

    def best(self):
        leads = {}
        player = len(self.state.turns) % 2
        for power in range(self.state.settings["powers"]):
            for coefficient in [c for c in range(-9, 10) if c != 0]:
                if self.reason(coefficient, power) == 0:
                    state = self.state_behind(coefficient, power)
                    lead = sum(self.points(player, state)) - sum(self.points(1 - player, state))
                    leads[20 * power + coefficient + 10] = lead
        return min((told for told in leads if leads[told] == max(leads.values())), default=NONE)

    def behind(self, coefficient, power, what):
        self.need_term(coefficient, power)
        need(0 <= what <= 3, Argument)
        need(self.reason(coefficient, power) == 0, Illegal)
        state = self.state_behind(coefficient, power)
        return [all_roots(trim(state.p)), sum(self.points(0, state)), sum(self.points(1, state)), int(state.over)][what]

    # ---- values and roots

    def p(self):
        return trim(self.state.p)

    def degree(self):
        return len(self.p()) - 1

    def value(self, x):
        need(-20 <= x <= 20, Argument)
        return value_at(self.state.p, x)

    def roots(self, a, b):
        need(-20 <= a <= 19 and a + 1 <= b <= 20, Argument)
        return roots_between(self.p(), a, b) if self.p() else NONE

    def allRoots(self):
        return all_roots(self.p()) if self.p() else NONE

    def rootsOfSign(self, of_sign):
        need(of_sign in (-1, 0, 1), Argument)
        if not self.p():
            return NONE
        at_zero = int(self.p()[0] == 0)
        return [at_zero, roots_between(self.p(), 0, FAR), roots_between(self.p(), -FAR, 0) - at_zero][of_sign]

    def multiplicity(self, x):
        need(-20 <= x <= 20, Argument)
        return next((i for i, row in enumerate(second_rule(self.p())) if value_at(row, x) != 0), NONE)

    def near(self, index, places):
        need(self.p() and 0 <= index < all_roots(self.p()), Index)
        need(0 <= places <= 6, Argument)
        low, high = -FAR << places, FAR << places
        while high - low > 1:
            middle = (low + high) // 2
            if roots_between(self.p(), -FAR, Fraction(middle, 1 << places)) <= index:
                low = middle
            else:
                high = middle
        return low

    def root(self, index):
        return float(2 * self.near(index, 6) + 1) / float(128)

    # ---- sign rows

    def rows(self):
        return len(first_rule(self.state.p))

    def rowDegree(self, row):
        need(0 <= row < self.rows(), Index)
        return len(first_rule(self.state.p)[row]) - 1

    def rowSign(self, row, x):
        need(0 <= row < self.rows(), Index)
        need(-20 <= x <= 20, Argument)
        return sign(value_at(first_rule(self.state.p)[row], x))

    def changes(self, rule, x):
        need(rule in (1, 2) and -20 <= x <= 20, Argument)
        return changes_at((first_rule if rule == 1 else second_rule)(self.p()), x)

    def surplus(self, a, b):
        need(-20 <= a <= 19 and a + 1 <= b <= 20, Argument)
        if not self.p():
            return NONE
        return self.changes(2, a) - self.changes(2, b) - counted_between(self.p(), a, b)

    # ---- output, undo, saved states

    def write(self):
        self.out = ""
        for power in (4, 3, 2, 1, 0):
            c = self.state.p[power]
            if c != 0:
                x = ["", "x", "x^2", "x^3", "x^4"][power]
                told = {1: "", -1: "-"}.get(c, str(c)) if power > 0 else str(c)
                self.out += ("+" if self.out and c > 0 else "") + told + x
        self.out = self.out or "0"
        return len(self.out)

    def writeTurns(self):
        self.out = ""
        for turn, act in enumerate(self.state.turns + [None]):
            for claim in self.state.claims[turn % 2]:
                if claim["turn"] == turn:
                    kind = "least" if claim["least"] else "exactly"
                    self.out += "claim %s %d %d %d %d;" % (kind, claim["a"], claim["b"], claim["roots"], claim["stake"])
            if act:
                self.out += " ".join(str(word) for word in act) + ";"
        return len(self.out)

    def output(self, index):
        return ord(self.out[index]) if 0 <= index < len(self.out) else NONE

    def undo(self):
        if not self.earlier:
            return NONE
        self.state = self.earlier.pop()
        return len(self.earlier)

    def save(self, slot):
        need(slot in (0, 1), Argument)
        self.saved[slot] = deepcopy(self.state)

    def restore(self, slot):
        need(slot in (0, 1), Argument)
        need(self.saved[slot], Illegal)
        self.state, self.earlier = deepcopy(self.saved[slot]), []
