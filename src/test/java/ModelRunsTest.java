import java.io.IOException;
import java.nio.charset.StandardCharsets;
import java.nio.file.Files;
import java.nio.file.Path;
import java.nio.file.Paths;

/**
 * Plays runs of calls whose answers were told by another program that was written from the document alone, with
 * fractions, in another way: src/test/data/model-runs.txt. A line there is "new", or a call with its answer, with X, A
 * or S for an exception (IndexOutOfBounds, IllegalArgument, IllegalState) and v for none.
 */
public final class ModelRunsTest {
    public static void main(String[] args) throws IOException {
        Path runs = Paths.get(args.length > 0 ? args[0] : "src/test/data/model-runs.txt");
        RootDuel duel = new RootDuel();
        int line = 0;
        int calls = 0;
        for (String told : Files.readAllLines(runs, StandardCharsets.US_ASCII)) {
            line++;
            if (told.equals("new")) {
                duel = new RootDuel();
                continue;
            }
            int equals = told.indexOf(" = ");
            String[] words = told.substring(0, equals).split(" ");
            int[] numbers = new int[words.length - 1];
            for (int i = 0; i < numbers.length; i++) {
                numbers[i] = Integer.parseInt(words[i + 1]);
            }
            Due.isText("line " + line + ": " + told, answer(duel, words[0], numbers), told.substring(equals + 3));
            calls++;
        }
        Due.is("there are runs", calls > 1000 ? 1 : 0, 1);
        Due.end("ModelRunsTest");
    }

    private static String answer(RootDuel duel, String name, int[] a) {
        try {
            return name.equals("value") || name.equals("root") ? special(duel, name, a) : plain(duel, name, a);
        } catch (IndexOutOfBoundsException e) {
            return e.getClass() == IndexOutOfBoundsException.class ? "X" : e.toString();
        } catch (IllegalArgumentException e) {
            return "A";
        } catch (IllegalStateException e) {
            return "S";
        }
    }

    private static String special(RootDuel duel, String name, int[] a) {
        return name.equals("value") ? Long.toString(duel.value(a[0])) : Double.toString(duel.root(a[0]));
    }

    private static String plain(RootDuel duel, String name, int[] a) {
        switch (name) {
            case "save":
                duel.save(a[0]);
                return "v";
            case "restore":
                duel.restore(a[0]);
                return "v";
            default:
                return Integer.toString(number(duel, name, a));
        }
    }

    private static int number(RootDuel duel, String name, int[] a) {
        switch (name) {
            case "appendText": return duel.appendText(a[0]);
            case "truncateText": return duel.truncateText(a[0]);
            case "load": return duel.load();
            case "play": return duel.play();
            case "errorCode": return duel.errorCode();
            case "errorPosition": return duel.errorPosition();
            case "count": return duel.count(a[0]);
            case "power": return duel.power(a[0], a[1]);
            case "claimOf": return duel.claimOf(a[0], a[1], a[2]);
            case "player": return duel.player(a[0], a[1]);
            case "winner": return duel.winner();
            case "account": return duel.account(a[0]);
            case "claim": return duel.claim(a[0], a[1], a[2], a[3] == 1, a[4]);
            case "lay": return duel.lay(a[0], a[1]);
            case "pass": return duel.pass();
            case "why": return duel.why(a[0], a[1]);
            case "best": return duel.best();
            case "behind": return duel.behind(a[0], a[1], a[2]);
            case "degree": return duel.degree();
            case "roots": return duel.roots(a[0], a[1]);
            case "allRoots": return duel.allRoots();
            case "rootsOfSign": return duel.rootsOfSign(a[0]);
            case "multiplicity": return duel.multiplicity(a[0]);
            case "near": return duel.near(a[0], a[1]);
            case "rows": return duel.rows();
            case "rowDegree": return duel.rowDegree(a[0]);
            case "rowSign": return duel.rowSign(a[0], a[1]);
            case "changes": return duel.changes(a[0], a[1]);
            case "surplus": return duel.surplus(a[0], a[1]);
            case "write": return duel.write();
            case "writeTurns": return duel.writeTurns();
            case "output": return duel.output(a[0]);
            case "undo": return duel.undo();
            default: throw new AssertionError(name);
        }
    }
}
