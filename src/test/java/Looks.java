import java.util.Arrays;

/** Looks at one object, or at two that are to be alike, and tells what is not as due. */
final class Looks {
    private final Check check;

    Looks(Check check) {
        this.check = check;
    }

    /** All numbers that a name has. */
    void left(String title, LinearReach x, int name, int... numbers) {
        for (int v = -33; v <= 32; v++) {
            int number = v;
            boolean due = Arrays.stream(numbers).anyMatch(one -> one == number);
            check.due(title + ": has(" + name + ", " + v + ")", x.has(name, v), due ? 1 : 0);
        }
    }

    /** The due ones: row, name, number, round. */
    void step(String title, LinearReach x, int i, int... due) {
        for (int what = 0; what < 4; what++) {
            check.due(title + ": step(" + i + ", " + what + ")", x.step(i, what), due[what]);
        }
    }

    /** The due ones: part 0, its bound, part 1, its bound, .. */
    void reason(String title, LinearReach x, int i, int... due) {
        int parts = due.length / 2;
        check.due(title + ": reason(" + i + ")", x.reason(i), parts);
        for (int k = 0; k < parts; k++) {
            check.due(title + ": part(" + i + ", " + k + ")", x.part(i, k), due[2 * k]);
            check.due(title + ": told(" + i + ", " + k + ")", x.told(i, k), due[2 * k + 1]);
        }
        int[] noPlaces = {-1, parts, Integer.MIN_VALUE, Integer.MAX_VALUE};
        for (int k : noPlaces) {
            check.due(title + ": part(" + i + ", " + k + ")", x.part(i, k), Check.OUTSIDE);
            check.due(title + ": told(" + i + ", " + k + ")", x.told(i, k), Check.OUTSIDE);
        }
    }

    /** The sets alone, of numbers from -2 to 9 (so that two looks stay below 512 calls). */
    void sameSets(String title, LinearReach x, LinearReach due) {
        for (int name = 0; name <= 8; name++) {
            check.due(title + ": size(" + name + ")", x.size(name), due.size(name));
            check.due(title + ": end(" + name + ", false)", x.end(name, false), due.end(name, false));
            check.due(title + ": end(" + name + ", true)", x.end(name, true), due.end(name, true));
        }
        for (int name = 0; due.size(name) != Check.OUTSIDE && name < 8; name++) {
            for (int v = -2; v <= 9; v++) {
                check.due(title + ": has(" + name + ", " + v + ")", x.has(name, v), due.has(name, v));
            }
        }
    }

    void sameSteps(String title, LinearReach x, LinearReach due) {
        check.due(title + ": clash()", x.clash(), due.clash());
        check.due(title + ": steps()", x.steps(), due.steps());
        for (int i = 0; i < due.steps(); i++) {
            for (int what = 0; what < 4; what++) {
                check.due(title + ": step(" + i + ", " + what + ")", x.step(i, what), due.step(i, what));
            }
            check.due(title + ": reason(" + i + ")", x.reason(i), due.reason(i));
            for (int k = 0; k < due.reason(i); k++) {
                check.due(title + ": part(" + i + ", " + k + ")", x.part(i, k), due.part(i, k));
                check.due(title + ": told(" + i + ", " + k + ")", x.told(i, k), due.told(i, k));
            }
        }
    }

    /** The rows, which only calls that begin anew show: so it comes last. */
    void sameRows(String title, LinearReach x, LinearReach due) {
        check.due(title + ": one more row", x.row(0, 0, 0, 0, 0), due.row(0, 0, 0, 0, 0));
        for (int row = 0; row < 12; row++) {
            for (int name = 0; name < 8; name++) {
                String call = "factor(" + row + ", " + name + ", 0)";
                check.due(title + ": " + call, x.factor(row, name, 0), due.factor(row, name, 0));
            }
        }
        check.due(title + ": one more name", x.name(0, 0), due.name(0, 0));
        check.due(title + ": clear()", x.clear(), due.clear());
    }

    /** All that can be seen of them now, then after one more round, and what they were told. */
    void same(String title, LinearReach x, LinearReach due) {
        sameSets(title, x, due);
        sameSteps(title, x, due);
        check.due(title + ": plans()", x.plans(), due.plans());
        check.due(title + ": run(0, 1)", x.run(0, 1), due.run(0, 1));
        sameSteps(title + ", a round later", x, due);
        sameRows(title, x, due);
    }
}
