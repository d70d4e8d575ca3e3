import java.math.BigInteger;
import java.util.ArrayList;
import java.util.Arrays;
import java.util.HashMap;
import java.util.List;
import java.util.Map;
import java.util.TreeSet;

/**
 * The document's words put into code as directly as can be, whatever it costs: what is impossible is
 * found by trying all numbers of all other names. The tests hold LinearReach against it.
 */
final class PlainReach {
    private static final int[] NAMED = {0, 0, 3, 3, 2, 3, 3, 2, 1, 1};
    /** No sum is below 8 times 9 times -32: so many added, none is below 0. */
    private static final int SHIFT = 8 * 9 * 32;

    private static final class PlainRow {
        int kind;
        int[] abc;
        int right;
        int[] factors = new int[8];

        boolean isAbout(int name) {
            for (int one : abc) {
                if (one == name) {
                    return true;
                }
            }
            return factors[name] != 0;
        }

        boolean hasFactors() {
            return kind < 2 || kind > 7;
        }

        /** What a number of a name gives to the sum, or of COUNT to how many. */
        int given(int name, int number) {
            return kind != 9 ? factors[name] * number : factors[name] != 0 && number == right ? 1 : 0;
        }

        boolean holds(int[] x) {
            int given = 0;
            for (int n = 0; n < 8; n++) {
                given += given(n, x[n]);
            }
            int[] numbers = new int[3];
            for (int i = 0; i < abc.length; i++) {
                numbers[i] = x[abc[i]];
            }
            return PlainReach.holds(kind, numbers, given, right);
        }
    }

    /** With the numbers of a, b, c (those that the kind has), and the sum, or of COUNT how many are RIGHT. */
    static boolean holds(int kind, int[] abc, int given, int right) {
        int a = abc[0];
        int b = abc[1];
        int c = abc[2];
        return switch (kind) {
            case 0 -> given <= right;
            case 1 -> given == right;
            case 2 -> a == b * c;
            case 3 -> c != 0 && a == (int) Math.floor((double) b / c);
            case 4 -> a == (b < 0 ? -b : b);
            case 5 -> a == (b > c ? b : c);
            case 6 -> a == (b < c ? b : c);
            case 7 -> a != b + right;
            case 8 -> a != 1 || given <= right;
            default -> a == given;
        };
    }

    private record PlainStep(int row, int name, int number, int round, List<int[]> reason) {
    }

    private final List<TreeSet<Integer>> first = new ArrayList<>();
    private final List<TreeSet<Integer>> now = new ArrayList<>();
    private final List<PlainRow> rows = new ArrayList<>();
    private final List<PlainStep> steps = new ArrayList<>();
    private final Map<String, BigInteger> allGivenBefore = new HashMap<>();
    private int clashRow = Check.NONE;
    private int round = 0;

    private void anew() {
        now.clear();
        for (TreeSet<Integer> set : first) {
            now.add(new TreeSet<>(set));
        }
        steps.clear();
        allGivenBefore.clear();
        clashRow = Check.NONE;
        round = 0;
    }

    int name(int low, int high) {
        if (low < -32 || low > 31 || high < -32 || high > 31 || low > high) {
            return Check.OUTSIDE;
        }
        if (first.size() == 8) {
            return Check.ROOM;
        }
        TreeSet<Integer> set = new TreeSet<>();
        for (int v = low; v <= high; v++) {
            set.add(v);
        }
        first.add(set);
        anew();
        return first.size() - 1;
    }

    private boolean noName(int name) {
        return name < 0 || name >= first.size();
    }

    int leave(int name, int number) {
        if (noName(name) || number < -32 || number > 31) {
            return Check.OUTSIDE;
        }
        TreeSet<Integer> set = first.get(name);
        if (set.size() == 1 && set.contains(number)) {
            return Check.STATE;
        }
        boolean was = set.remove(number);
        anew();
        return was ? 1 : 0;
    }

    int row(int kind, int a, int b, int c, int right) {
        if (kind < 0 || kind > 9 || right < -1000 || right > 1000) {
            return Check.OUTSIDE;
        }
        int[] told = {a, b, c};
        int[] abc = new int[NAMED[kind]];
        for (int i = 0; i < abc.length; i++) {
            abc[i] = told[i];
            if (noName(abc[i])) {
                return Check.OUTSIDE;
            }
            for (int j = 0; j < i; j++) {
                if (abc[j] == abc[i]) {
                    return Check.OUTSIDE;
                }
            }
        }
        if (rows.size() == 12) {
            return Check.ROOM;
        }
        PlainRow row = new PlainRow();
        row.kind = kind;
        row.abc = abc;
        row.right = right;
        rows.add(row);
        anew();
        return rows.size() - 1;
    }

    int factor(int row, int name, int factor) {
        if (row < 0 || row >= rows.size() || noName(name) || factor < -9 || factor > 9) {
            return Check.OUTSIDE;
        }
        PlainRow changed = rows.get(row);
        if (changed.kind > 1 && changed.kind < 8 || changed.kind >= 8 && changed.abc[0] == name) {
            return Check.STATE;
        }
        int was = changed.factors[name];
        changed.factors[name] = factor;
        anew();
        return was;
    }

    int clear() {
        int were = first.size();
        first.clear();
        rows.clear();
        anew();
        return were;
    }

    int run(int order, int rounds) {
        if (order != 0 && order != 1 || rounds < 1 || rounds > 200) {
            return Check.OUTSIDE;
        }
        int done = 0;
        while (clashRow == Check.NONE && done < rounds) {
            int before = steps.size();
            round++;
            done++;
            oneRound(order);
            if (steps.size() == before) {
                break;
            }
        }
        return clashRow == Check.NONE ? done : 0;
    }

    private void oneRound(int order) {
        for (int i = 0; i < rows.size(); i++) {
            int r = order == 0 ? i : rows.size() - 1 - i;
            for (int name = 0; name < first.size(); name++) {
                if (!rows.get(r).isAbout(name)) {
                    continue;
                }
                for (int number : new ArrayList<>(now.get(name))) {
                    int[][] bounds = boundsOf(now);
                    if (isImpossible(rows.get(r), name, number, bounds)) {
                        steps.add(new PlainStep(r, name, number, round, reasonOf(rows.get(r), name, number, bounds)));
                        now.get(name).remove(number);
                        if (now.get(name).isEmpty()) {
                            clashRow = r;
                            return;
                        }
                    }
                }
            }
        }
    }

    private static int[][] boundsOf(List<TreeSet<Integer>> sets) {
        int[][] bounds = new int[sets.size()][];
        for (int n = 0; n < bounds.length; n++) {
            bounds[n] = new int[] {sets.get(n).first(), sets.get(n).last()};
        }
        return bounds;
    }

    private List<int[]> reasonOf(PlainRow row, int name, int number, int[][] bounds) {
        int[][] firsts = boundsOf(first);
        boolean[] kept = new boolean[16];
        for (int n = 0; n < bounds.length; n++) {
            for (int most = 0; most < 2; most++) {
                kept[2 * n + most] = n != name && row.isAbout(n) && bounds[n][most] != firsts[n][most];
            }
        }
        for (int part = 2 * bounds.length - 1; part >= 0; part--) {
            if (kept[part]) {
                kept[part] = false;
                kept[part] = !isImpossible(row, name, number, mixed(bounds, firsts, kept));
            }
        }
        List<int[]> reason = new ArrayList<>();
        for (int part = 0; part < 16; part++) {
            if (kept[part]) {
                reason.add(new int[] {part, bounds[part / 2][part % 2]});
            }
        }
        return reason;
    }

    private static int[][] mixed(int[][] bounds, int[][] firsts, boolean[] kept) {
        int[][] mix = new int[bounds.length][2];
        for (int part = 0; part < 2 * bounds.length; part++) {
            mix[part / 2][part % 2] = (kept[part] ? bounds : firsts)[part / 2][part % 2];
        }
        return mix;
    }

    private boolean isImpossible(PlainRow row, int name, int number, int[][] bounds) {
        if (!row.hasFactors()) {
            return !canHold(row, name, number, bounds, 0, new int[8]);
        }
        BigInteger others = allGivenByOthers(row, name, bounds);
        int own = row.given(name, number);
        if (row.kind == 1) {
            return !canHoldWith(0, 0, others, own, 1, row.right) || !canHoldWith(0, 0, others, own, -1, -row.right);
        }
        int a = row.kind == 0 ? 0 : row.abc[0];
        int low = row.kind == 0 ? 0 : a == name ? number : bounds[a][0];
        int high = row.kind == 0 ? 0 : a == name ? number : bounds[a][1];
        for (int v = low; v <= high; v++) {
            if (canHoldWith(row.kind, v, others, own, 1, row.right)) {
                return false;
            }
        }
        return true;
    }

    /** With one of what the others can give. */
    private static boolean canHoldWith(int kind, int a, BigInteger others, int own, int sign, int right) {
        for (int bit = others.getLowestSetBit(); bit < others.bitLength(); bit++) {
            if (others.testBit(bit) && holds(kind, new int[] {a, 0, 0}, sign * (own + bit - SHIFT), right)) {
                return true;
            }
        }
        return false;
    }

    /**
     * Eight wide names are too many to try all their numbers together: so all that the first ones can
     * give is kept, as bits, and each number of the next one is added to each.
     */
    private BigInteger allGivenByOthers(PlainRow row, int name, int[][] bounds) {
        String key = rows.indexOf(row) + " " + name + " " + Arrays.deepToString(bounds);
        BigInteger before = allGivenBefore.get(key);
        if (before != null) {
            return before;
        }
        BigInteger all = BigInteger.ONE.shiftLeft(SHIFT);
        for (int n = 0; n < bounds.length; n++) {
            if (n != name && row.factors[n] != 0) {
                BigInteger more = BigInteger.ZERO;
                for (int v = bounds[n][0]; v <= bounds[n][1]; v++) {
                    more = more.or(all.shiftLeft(row.given(n, v)));
                }
                all = more;
            }
        }
        allGivenBefore.put(key, all);
        return all;
    }

    /** Of a row without factors: all numbers of the names that it is about are tried. */
    private boolean canHold(PlainRow row, int name, int number, int[][] bounds, int at, int[] chosen) {
        if (at == bounds.length) {
            return row.holds(chosen);
        }
        if (at == name || !row.isAbout(at)) {
            chosen[at] = at == name ? number : 0;
            return canHold(row, name, number, bounds, at + 1, chosen);
        }
        for (int v = bounds[at][0]; v <= bounds[at][1]; v++) {
            chosen[at] = v;
            if (canHold(row, name, number, bounds, at + 1, chosen)) {
                return true;
            }
        }
        return false;
    }

    int clash() {
        return clashRow;
    }

    int has(int name, int number) {
        return noName(name) ? Check.OUTSIDE : now.get(name).contains(number) ? 1 : 0;
    }

    int end(int name, boolean most) {
        if (noName(name)) {
            return Check.OUTSIDE;
        }
        TreeSet<Integer> set = now.get(name);
        return set.isEmpty() ? Check.NONE : most ? set.last() : set.first();
    }

    int size(int name) {
        return noName(name) ? Check.OUTSIDE : now.get(name).size();
    }

    int steps() {
        return steps.size();
    }

    private boolean noStep(int i) {
        return i < 0 || i >= steps.size();
    }

    int step(int i, int what) {
        if (noStep(i) || what < 0 || what > 3) {
            return Check.OUTSIDE;
        }
        PlainStep step = steps.get(i);
        return new int[] {step.row(), step.name(), step.number(), step.round()}[what];
    }

    int reason(int i) {
        return noStep(i) ? Check.OUTSIDE : steps.get(i).reason().size();
    }

    int part(int i, int k) {
        return noStep(i) || k < 0 || k >= reason(i) ? Check.OUTSIDE : steps.get(i).reason().get(k)[0];
    }

    int told(int i, int k) {
        return noStep(i) || k < 0 || k >= reason(i) ? Check.OUTSIDE : steps.get(i).reason().get(k)[1];
    }

    int plans() {
        long product = 1;
        for (TreeSet<Integer> set : now) {
            product *= set.size();
        }
        return product > 4000 ? Check.NONE : product == 0 ? 0 : countPlans(0, new int[8]);
    }

    private int countPlans(int at, int[] chosen) {
        if (at == now.size()) {
            for (PlainRow row : rows) {
                if (!row.holds(chosen)) {
                    return 0;
                }
            }
            return 1;
        }
        int found = 0;
        for (int v : now.get(at)) {
            chosen[at] = v;
            found += countPlans(at + 1, chosen);
        }
        return found;
    }
}
