"""Writes runs of calls with the answers of model.py, in the form that ModelRunsTest plays.

    python3 runs.py SEED RUNS CALLS > runs.txt

A run ends at the first step behind that many calls. A text may bring 150 calls, and an object has just 512 of them, so
CALLS is 360 at most. ../data/model-runs.txt was made with 20261120 80 360.
"""
import sys
from random import Random

from model import RANGES, Argument, Illegal, Index, Model

GREAT = [-2 ** 31, 2 ** 31 - 1, -2 ** 31 + 1, 2 ** 30, 65536, -65536, 1000, -1000]
LETTERS = {Index: "X", Argument: "A", Illegal: "S"}


class Run:
    def __init__(self, random, most):
        self.random = random
        self.most = most
        self.calls = 0
        self.model = Model()
        print("new")

    def chance(self, part):
        return self.random.random() < part

    def pick(self, *ways):
        return self.random.choice(ways)

    def draw(self, least, most, wrong=0.05):
        """A number of the range, often one of its ends, at times one beside it or a great one."""
        if self.chance(wrong):
            return self.pick(least - 1, most + 1, least - 2, most + 2, self.random.choice(GREAT))
        return self.pick(least, most) if self.chance(0.2) else self.random.randint(least, most)

    def call(self, name, *arguments):
        self.calls += 1
        try:
            answer = getattr(self.model, "pass_" if name == "pass" else name)(*arguments)
            told = "v" if answer is None else str(answer)
        except (Index, Argument, Illegal) as e:
            told = LETTERS[type(e)]
        print(" ".join([name] + [str(int(a)) for a in arguments]), "=", told)

    # ---- texts

    def number(self, least, most, wrong=0.01):
        told = self.random.randint(least, most)
        if self.chance(wrong):
            told = self.pick(least - 1, most + 1, 10 ** 20)
        minus = self.pick("-", "-", "-", "- ") if told < 0 else ""
        return minus + ("0" if self.chance(0.03) else "") + str(abs(told))

    def joined(self, parts):
        text = "".join(part + self.pick(";", ";", ";", " ;", "; ", ";\n") for part in parts)
        if text and self.chance(0.08):
            at = self.random.randrange(len(text))
            text = text[:at] + self.pick(";", "-", " ", "a", "9", "\t", "\xff", "A", "") + text[at + self.pick(0, 1):]
        return text

    def coefficients(self):
        """Any ones, or those of a product of small factors, which has multiple roots at times."""
        if self.chance(0.4):
            return [self.pick(0, 0, self.random.randint(-30, 30), self.random.randint(-9, 9)) for _ in range(5)]
        while True:
            product = [self.pick(1, 1, -1, 2, -2, 3, -3)]
            for _ in range(self.random.randint(1, 4)):
                factor = self.pick([self.random.randint(-4, 4), self.pick(1, 1, 2, 3)], [0, 1], [self.pick(1, -1), 1],
                                   [self.random.randint(-3, 3), 0, 1])
                following = [0] * (len(product) + len(factor) - 1)
                for i, a in enumerate(product):
                    for j, b in enumerate(factor):
                        following[i + j] += a * b
                product = following
            if len(product) <= 5 and all(abs(c) <= 30 for c in product):
                return product

    def setup(self):
        parts = []
        words = [word for word in RANGES if word != "bonus" and self.chance(0.5)]
        self.random.shuffle(words)
        for word in words:
            part = word + " " + self.number(*RANGES[word])
            if word == "turns" and self.chance(0.6):
                part = "turns %d" % self.random.randint(20, 60)
            if word == "purse" and self.chance(0.5):
                part = "purse %d" % self.random.randint(20, 40)
            parts.append(part + (" " + self.number(0, 20) if word == "goal" else ""))
        starts = list(enumerate(self.coefficients())) if self.chance(0.7) else []
        self.random.shuffle(starts)
        few = "powers" in words and self.chance(0.9)
        parts += ["start %d %d" % (c, power) for power, c in starts if c != 0 and (power < 2 or not few)]
        parts += [part for part in ("start 1 %d" % self.random.randint(0, 6), "powers 3", "bar 3") if self.chance(0.02)]
        return self.joined(parts)

    def script(self):
        length = self.pick(1, 2, 3, 5, 8, 40, 41) if self.chance(0.1) else self.random.randint(0, 6)
        parts = []
        for _ in range(length):
            way = self.random.random()
            if length >= 40:
                parts.append(self.pick("pass", "lay 1 1", "lay 1 2", "lay 1 0"))
            elif way < 0.55:
                coefficient = self.pick(1, -1) * self.random.randint(1, 9)
                powers = self.model.state.settings["powers"]
                parts.append("lay %s %s" % (self.number(coefficient, coefficient), self.number(0, powers - 1)))
            elif way < 0.85:
                a, b = self.interval(0)
                parts.append("claim %s %s %s %s %s" % (self.pick("exactly", "least"), self.number(a, a), self.number(b, b),
                                                       self.number(0, 4), self.number(1, self.pick(3, 9))))
            else:
                parts.append("pass")
        return self.joined(parts)

    def feed(self, text, name):
        length = len(self.model.text)
        if length > 0 and self.chance(0.8) or length + len(text) > 590:
            self.call("truncateText", 0)
            length = 0
        given = text.encode("latin1")[:590]
        for at in range(0, len(given), 4):
            four = int.from_bytes((given[at:at + 4] + b"   ")[:4], "big")
            self.call("appendText", four - (four >> 31 << 32))
        if len(given) % 4:
            self.call("truncateText", length + len(given))
        self.call(name)
        self.call("errorCode")
        self.call("errorPosition")

    # ---- arguments

    def place(self):
        return self.draw(-20, 20) if self.chance(0.5) else self.random.randint(-4, 4)

    def interval(self, wrong=0.06):
        a = self.random.randint(-20, 19)
        if self.chance(wrong):
            return self.draw(-20, 19, 0.5), self.draw(-20, 20, 0.5)
        return a, self.random.randint(a + 1, min(20, a + self.pick(1, 2, 3, 40)))

    def term(self):
        return self.draw(-9, 9), self.draw(0, self.model.state.settings["powers"] - 1, 0.03)

    def row(self):
        return self.draw(0, 4)

    # ---- steps: how often each is taken, and what it calls

    def steps(self):
        draw, call = self.draw, self.call
        return [
            (1, lambda: self.feed(self.setup(), "load")),
            (6, lambda: self.feed(self.script(), "play")),
            (26, lambda: call("lay", *self.term())),
            (8, lambda: call("pass")),
            (14, lambda: call("claim", *self.interval(), draw(0, 4, 0.03), self.pick(True, False),
                              draw(1, 9, 0.03) if self.chance(0.4) else draw(1, 3, 0))),
            (8, lambda: call("undo")),
            (2, lambda: call("save", draw(0, 1))),
            (1, lambda: call("restore", draw(0, 1))),
            (3, lambda: call("best")),
            (8, lambda: call("behind", *self.term(), draw(0, 3, 0.03))),
            (6, lambda: call("why", *self.term())),
            (14, lambda: call("count", draw(0, 15))),
            (6, lambda: call("power", draw(0, self.model.state.settings["powers"] - 1), draw(0, 4))),
            (8, lambda: call("claimOf", draw(0, 1, 0.03), draw(0, 3, 0.03), draw(0, 6, 0.03))),
            (12, lambda: call("player", draw(0, 1, 0.03), draw(0, 7, 0.03))),
            (4, lambda: call("winner")),
            (4, lambda: call("account", draw(0, 8, 0.03))),
            (2, lambda: call("degree")),
            (4, lambda: call("value", self.place())),
            (6, lambda: call("roots", *self.interval())),
            (4, lambda: call("allRoots")),
            (4, lambda: call("rootsOfSign", draw(-1, 1))),
            (4, lambda: call("multiplicity", self.place())),
            (8, lambda: call("near", self.pick(0, 0, 1, draw(0, 3)), draw(0, 6, 0.03))),
            (4, lambda: call("root", self.pick(0, 0, 1, draw(0, 3)))),
            (2, lambda: call("rows")),
            (4, lambda: call("rowDegree", self.row())),
            (6, lambda: call("rowSign", self.row(), self.place())),
            (6, lambda: call("changes", draw(1, 2), self.place())),
            (5, lambda: call("surplus", *self.interval())),
            (3, lambda: self.written(draw)),
            (2, lambda: call("truncateText", draw(0, len(self.model.text), 0.2))),
            (1, lambda: call("appendText", self.pick(0x20202020, 0x70617373, self.random.randint(-2 ** 31, 2 ** 31 - 1)))),
        ]

    def written(self, draw):
        self.call(self.pick("write", "writeTurns"))
        length = len(self.model.out)
        indexes = range(length + 1) if length < 60 and self.chance(0.3) else [draw(0, length) for _ in range(5)]
        for index in indexes:
            self.call("output", index)

    def play(self):
        if self.chance(0.85):
            self.feed(self.setup(), "load")
        steps = self.steps()
        while self.calls < self.most:
            self.random.choices([step for _, step in steps], [weight for weight, _ in steps])[0]()


def main():
    seed, runs, calls = (int(argument) for argument in sys.argv[1:4])
    random = Random(seed)
    for _ in range(runs):
        Run(random, calls).play()


if __name__ == "__main__":
    main()
