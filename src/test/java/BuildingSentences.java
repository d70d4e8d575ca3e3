/** Promises 1 to 6: a new object, name, leave, row, factor, clear. */
final class BuildingSentences {
    private static final int[] NAMED = {0, 0, 3, 3, 2, 3, 3, 2, 1, 1};
    private static final int[] NO_NAMES = {-1, 3, 8, Integer.MIN_VALUE, Integer.MAX_VALUE};
    private final Check check;
    private final Looks looks;

    BuildingSentences(Check check) {
        this.check = check;
        this.looks = new Looks(check);
    }

    void addTo(Sentences s) {
        s.hold("Promise 1", "No names, no rows", this::newObject);
        s.hold("Promise 2", "One more name, with all numbers from low to high: its number", this::oneMoreName);
        s.hold("Promise 2", "OUTSIDE: they are not -32 .. 31,", this::nameOutside);
        s.hold("Promise 2", "or low is above high", this::lowAboveHigh);
        s.hold("Promise 2", "ROOM", this::noRoomForAName);
        s.hold("Promise 3", "A number (-32 .. 31) is left out of a name's FIRST SET: 1", this::leftOut);
        s.hold("Promise 3", "0: it was not in it", this::wasNotInIt);
        s.hold("Promise 3", "OUTSIDE", this::leaveOutside);
        s.hold("Promise 3", "STATE: it is the only one", this::theOnlyOne);
        s.hold("Promise 4", "One more row", this::oneMoreRow);
        s.hold("Promise 4", "what its KIND does not have is not looked at", this::notLookedAt);
        s.hold("Promise 4", "RIGHT is always): its number", this::rightIsLookedAt);
        s.hold("Promise 4", "OUTSIDE:", this::rowOutside);
        s.hold("Promise 4", "also when two of its names are the same one", this::theSameName);
        s.hold("Promise 4", "ROOM", this::noRoomForARow);
        s.hold("Promise 5", "A FACTOR: what it was", this::whatItWas);
        s.hold("Promise 5", "OUTSIDE", this::factorOutside);
        s.hold("Promise 5", "STATE: the row's KIND has none,", this::noFactors);
        s.hold("Promise 5", "or the name is its a", this::factorOfA);
        s.hold("Promise 6", "There are no names and rows then", this::cleared);
        s.hold("Promise 6", "how many names there were", this::howManyThereWere);
    }

    private void newObject() {
        LinearReach x = new LinearReach();
        check.due("size(0)", x.size(0), Check.OUTSIDE);
        check.due("has(0, 0)", x.has(0, 0), Check.OUTSIDE);
        check.due("end(0, false)", x.end(0, false), Check.OUTSIDE);
        check.due("leave(0, 0)", x.leave(0, 0), Check.OUTSIDE);
        check.due("row(8, 0, 0, 0, 0)", x.row(8, 0, 0, 0, 0), Check.OUTSIDE);
        check.due("steps()", x.steps(), 0);
        check.due("clash()", x.clash(), Check.NONE);
        check.due("plans()", x.plans(), 1);
        check.due("run(0, 200)", x.run(0, 200), 1);
        check.due("clear()", x.clear(), 0);
        x = new LinearReach();
        check.due("the first name", x.name(0, 0), 0);
        check.due("factor(0, 0, 0)", x.factor(0, 0, 0), Check.OUTSIDE);
        check.due("the first row", x.row(0, 0, 0, 0, 0), 0);
        check.due("another one has none of it", new LinearReach().size(0), Check.OUTSIDE);
    }

    private void oneMoreName() {
        int[][] bounds = {{-32, 31}, {-32, -32}, {31, 31}, {0, 0}, {-1, 0}, {-32, 30}, {-31, 31}, {-9, -4}};
        LinearReach x = new LinearReach();
        for (int i = 0; i < bounds.length; i++) {
            int low = bounds[i][0];
            int high = bounds[i][1];
            check.due("name(" + low + ", " + high + ")", x.name(low, high), i);
            check.due("size(" + i + ")", x.size(i), high - low + 1);
            check.due("has low", x.has(i, low), 1);
            check.due("has high", x.has(i, high), 1);
            check.due("has not low - 1", x.has(i, low - 1), 0);
            check.due("has not high + 1", x.has(i, high + 1), 0);
            check.due("LEAST", x.end(i, false), low);
            check.due("MOST", x.end(i, true), high);
        }
    }

    private void nameOutside() {
        int[][] wrong = {{-33, -33}, {-33, 0}, {-33, 31}, {0, 32}, {32, 32}, {-32, 32}, {-64, -40}, {40, 64},
            {Integer.MIN_VALUE, Integer.MAX_VALUE}, {Integer.MIN_VALUE, 0}, {0, Integer.MAX_VALUE},
            {Integer.MAX_VALUE, Integer.MAX_VALUE}, {Integer.MIN_VALUE, Integer.MIN_VALUE}};
        LinearReach x = new LinearReach();
        for (int[] one : wrong) {
            check.due("name(" + one[0] + ", " + one[1] + ")", x.name(one[0], one[1]), Check.OUTSIDE);
        }
        check.due("there is none", x.size(0), Check.OUTSIDE);
        check.due("the bounds themselves are fine", x.name(-32, 31), 0);
    }

    private void lowAboveHigh() {
        LinearReach x = new LinearReach();
        int[][] wrong = {{1, 0}, {0, -1}, {31, -32}, {31, 30}, {-31, -32}};
        for (int[] one : wrong) {
            check.due("name(" + one[0] + ", " + one[1] + ")", x.name(one[0], one[1]), Check.OUTSIDE);
        }
        check.due("the same one is not above", x.name(1, 1), 0);
    }

    private void noRoomForAName() {
        LinearReach x = Build.alike(7, 0, 3);
        check.due("the eighth", x.name(1, 2), 7);
        check.due("the ninth", x.name(1, 2), Check.ROOM);
        check.due("again", x.name(-32, 31), Check.ROOM);
        check.due("there are eight", x.size(8), Check.OUTSIDE);
        looks.left("the eighth is as it was", x, 7, 1, 2);
        check.due("clear()", x.clear(), 8);
        check.due("there is room again", x.name(1, 2), 0);
    }

    private void leftOut() {
        LinearReach x = Build.names(-32, 31, 0, 2);
        int[] numbers = {-32, 31, 0, -1, 5};
        for (int i = 0; i < numbers.length; i++) {
            check.due("leave(0, " + numbers[i] + ")", x.leave(0, numbers[i]), 1);
            check.due("has(0, " + numbers[i] + ")", x.has(0, numbers[i]), 0);
            check.due("size(0)", x.size(0), 63 - i);
        }
        check.due("size(1)", x.size(1), 3);
        LinearReach y = Build.chain();
        y.run(0, 200);
        check.due("7 was taken, but is in FIRST", y.leave(0, 7), 1);
        looks.left("FIRST without 7", y, 0, 0, 1, 2, 3, 4, 5, 6);
        y.name(0, 0);
        looks.left("it stays so", y, 0, 0, 1, 2, 3, 4, 5, 6);
    }

    private void wasNotInIt() {
        LinearReach x = Build.names(3, 5);
        check.due("below low", x.leave(0, 2), 0);
        check.due("above high", x.leave(0, 6), 0);
        check.due("the lowest", x.leave(0, -32), 0);
        check.due("the highest", x.leave(0, 31), 0);
        check.due("4", x.leave(0, 4), 1);
        check.due("4 again", x.leave(0, 4), 0);
        looks.left("nothing else is gone", x, 0, 3, 5);
        x.leave(0, 3);
        check.due("another one than the only one", x.leave(0, 3), 0);
    }

    private void leaveOutside() {
        LinearReach x = Build.alike(3, -32, 31);
        for (int name : NO_NAMES) {
            check.due("leave(" + name + ", 0)", x.leave(name, 0), Check.OUTSIDE);
        }
        int[] noNumbers = {-33, 32, -96, 96, 64, Integer.MIN_VALUE, Integer.MAX_VALUE};
        for (int number : noNumbers) {
            check.due("leave(0, " + number + ")", x.leave(0, number), Check.OUTSIDE);
        }
        check.due("nothing is gone", x.size(0), 64);
    }

    private void theOnlyOne() {
        LinearReach x = Build.names(-32, 31, 7, 7);
        for (int number = -32; number < 31; number++) {
            check.due("leave(0, " + number + ")", x.leave(0, number), 1);
        }
        check.due("leave(0, 31)", x.leave(0, 31), Check.STATE);
        check.due("has(0, 31)", x.has(0, 31), 1);
        check.due("leave(1, 7)", x.leave(1, 7), Check.STATE);
        check.due("has(1, 7)", x.has(1, 7), 1);
        LinearReach y = Build.names(0, 5, 4, 4);
        Build.sum(y, 0, 0, 1);
        y.run(0, 200);
        check.due("the only one now, not of FIRST", y.leave(0, 0), 1);
        Build.sum(y, 0, 3, 0, 1);
        check.due("run", y.run(0, 200), 0);
        check.due("it is taken, but FIRST's only one", y.leave(1, 4), Check.STATE);
        check.due("the CLASH stays", y.clash() >= 0 ? 1 : 0, 1);
    }

    private void oneMoreRow() {
        LinearReach x = Build.alike(3, 0, 3);
        for (int kind = 0; kind < 10; kind++) {
            check.due("kind " + kind, x.row(kind, 2, 1, 0, 1), kind);
        }
        LinearReach without = new LinearReach();
        check.due("AT MOST needs no names", without.row(0, 0, 0, 0, 0), 0);
        check.due("JUST needs no names", without.row(1, 0, 0, 0, 0), 1);
        for (int kind = 2; kind < 10; kind++) {
            check.due("kind " + kind + " needs names", without.row(kind, 0, 1, 2, 0), Check.OUTSIDE);
        }
    }

    private void notLookedAt() {
        int[] tried = {-1, 0, 1, 2, 3, 100, Integer.MIN_VALUE, Integer.MAX_VALUE};
        for (int kind = 0; kind < 10; kind++) {
            int named = NAMED[kind];
            for (int any : tried) {
                LinearReach x = Build.alike(3, 0, 3);
                int a = named > 0 ? 0 : any;
                int b = named > 1 ? 1 : any;
                int c = named > 2 ? 2 : any;
                check.due("row(" + kind + ", " + a + ", " + b + ", " + c + ", 0)", x.row(kind, a, b, c, 0), 0);
            }
        }
    }

    private void rightIsLookedAt() {
        int[] wrong = {-1001, 1001, Integer.MIN_VALUE, Integer.MAX_VALUE};
        LinearReach x = Build.alike(3, 0, 3);
        for (int kind = 0; kind < 10; kind++) {
            for (int right : wrong) {
                check.due("kind " + kind + ", right " + right, x.row(kind, 0, 1, 2, right), Check.OUTSIDE);
            }
        }
        for (int kind = 0; kind < 10; kind++) {
            check.due("kind " + kind, x.row(kind, 0, 1, 2, kind % 2 == 0 ? 1000 : -1000), kind);
        }
    }

    private void rowOutside() {
        LinearReach x = Build.alike(3, 0, 3);
        int[] noKinds = {-1, 10, 64, Integer.MIN_VALUE, Integer.MAX_VALUE};
        for (int kind : noKinds) {
            check.due("kind " + kind, x.row(kind, 0, 1, 2, 0), Check.OUTSIDE);
        }
        for (int kind = 2; kind < 10; kind++) {
            for (int no : NO_NAMES) {
                check.due("kind " + kind + ", a " + no, x.row(kind, no, 1, 2, 0), Check.OUTSIDE);
                if (NAMED[kind] > 1) {
                    check.due("kind " + kind + ", b " + no, x.row(kind, 0, no, 2, 0), Check.OUTSIDE);
                }
                if (NAMED[kind] > 2) {
                    check.due("kind " + kind + ", c " + no, x.row(kind, 0, 1, no, 0), Check.OUTSIDE);
                }
            }
        }
        check.due("there is none yet", x.row(0, 0, 0, 0, 0), 0);
    }

    private void theSameName() {
        LinearReach x = Build.alike(3, 0, 3);
        for (int kind = 2; kind < 8; kind++) {
            check.due("kind " + kind + ": a is b", x.row(kind, 1, 1, 2, 0), Check.OUTSIDE);
            if (NAMED[kind] > 2) {
                check.due("kind " + kind + ": a is c", x.row(kind, 1, 2, 1, 0), Check.OUTSIDE);
                check.due("kind " + kind + ": b is c", x.row(kind, 2, 1, 1, 0), Check.OUTSIDE);
                check.due("kind " + kind + ": all are one", x.row(kind, 1, 1, 1, 0), Check.OUTSIDE);
            }
        }
        check.due("UNLIKE has no c: a is c", x.row(7, 1, 2, 1, 0), 0);
        check.due("AMOUNT has no c: b is c", x.row(4, 1, 2, 2, 0), 1);
        check.due("IF has no b", x.row(8, 1, 1, 1, 0), 2);
    }

    private void noRoomForARow() {
        LinearReach x = Build.alike(3, 0, 3);
        for (int i = 0; i < 11; i++) {
            x.row(0, 0, 0, 0, 0);
        }
        check.due("the twelfth", x.row(9, 2, 0, 0, 0), 11);
        check.due("the thirteenth", x.row(9, 2, 0, 0, 0), Check.ROOM);
        check.due("of another kind", x.row(2, 0, 1, 2, 0), Check.ROOM);
        check.due("there are twelve", x.factor(12, 0, 1), Check.OUTSIDE);
        check.due("the twelfth is as it was", x.factor(11, 2, 1), Check.STATE);
        x.clear();
        check.due("there is room again", x.row(0, 0, 0, 0, 0), 0);
    }

    private void whatItWas() {
        LinearReach x = Build.alike(2, 0, 1);
        x.row(0, 0, 0, 0, 0);
        x.row(0, 0, 0, 0, 0);
        int before = 0;
        for (int factor = -9; factor <= 9; factor++) {
            check.due("factor(0, 1, " + factor + ")", x.factor(0, 1, factor), before);
            before = factor;
        }
        check.due("of the other name", x.factor(0, 0, 4), 0);
        check.due("of the other row", x.factor(1, 1, 4), 0);
        check.due("a run changes none", x.run(0, 1), 1);
        check.due("it is the last one", x.factor(0, 1, 1), 9);
        check.due("a name more changes none", x.name(0, 1), 2);
        check.due("it is the last one", x.factor(0, 1, 1), 1);
    }

    private void factorOutside() {
        LinearReach x = Build.alike(3, 0, 1);
        check.due("no row at all", x.factor(0, 0, 1), Check.OUTSIDE);
        x.row(0, 0, 0, 0, 0);
        int[] noRows = {-1, 1, 11, 12, Integer.MIN_VALUE, Integer.MAX_VALUE};
        for (int row : noRows) {
            check.due("factor(" + row + ", 0, 1)", x.factor(row, 0, 1), Check.OUTSIDE);
        }
        for (int name : NO_NAMES) {
            check.due("factor(0, " + name + ", 1)", x.factor(0, name, 1), Check.OUTSIDE);
        }
        int[] noFactors = {-10, 10, Integer.MIN_VALUE, Integer.MAX_VALUE};
        for (int factor : noFactors) {
            check.due("factor(0, 0, " + factor + ")", x.factor(0, 0, factor), Check.OUTSIDE);
        }
        for (int name = 0; name < 3; name++) {
            check.due("nothing was set", x.factor(0, name, 0), 0);
        }
    }

    private void noFactors() {
        LinearReach x = Build.alike(4, 0, 1);
        for (int kind = 0; kind < 10; kind++) {
            x.row(kind, 0, 1, 2, 0);
            boolean has = kind < 2 || kind > 7;
            check.due("kind " + kind, x.factor(kind, 3, 0), has ? 0 : Check.STATE);
            check.due("kind " + kind, x.factor(kind, 1, 5), has ? 0 : Check.STATE);
        }
    }

    private void factorOfA() {
        LinearReach x = Build.alike(3, 0, 1);
        for (int kind = 8; kind < 10; kind++) {
            int row = x.row(kind, 1, 0, 2, 0);
            check.due("kind " + kind + ": a", x.factor(row, 1, 1), Check.STATE);
            check.due("kind " + kind + ": a, 0", x.factor(row, 1, 0), Check.STATE);
            check.due("kind " + kind + ": what would be b", x.factor(row, 0, 1), 0);
            check.due("kind " + kind + ": what would be c", x.factor(row, 2, 1), 0);
        }
        for (int kind = 0; kind < 2; kind++) {
            int row = x.row(kind, 1, 1, 1, 0);
            check.due("kind " + kind + " has no a", x.factor(row, 1, 1), 0);
        }
    }

    private void cleared() {
        LinearReach x = Build.chain();
        x.leave(0, 3);
        x.run(0, 1);
        x.clear();
        check.due("size(0)", x.size(0), Check.OUTSIDE);
        check.due("factor(0, 0, 0)", x.factor(0, 0, 0), Check.OUTSIDE);
        check.due("plans()", x.plans(), 1);
        check.due("steps()", x.steps(), 0);
        looks.same("like a new one", x, new LinearReach());
        LinearReach y = Build.chain();
        y.leave(0, 3);
        y.clear();
        check.due("a name", y.name(0, 7), 0);
        check.due("what was left out is there", y.size(0), 8);
        check.due("no row is there", y.factor(0, 0, 1), Check.OUTSIDE);
        check.due("a row", y.row(0, 0, 0, 0, 5), 0);
        check.due("its factor", y.factor(0, 0, 0), 0);
        check.due("it takes nothing", y.run(0, 200), 1);
    }

    private void howManyThereWere() {
        LinearReach x = new LinearReach();
        for (int count = 0; count <= 8; count++) {
            for (int i = 0; i < count; i++) {
                x.name(0, 1);
                x.row(0, 0, 0, 0, 0);
            }
            x.name(1, 0);
            check.due("clear() of " + count, x.clear(), count);
        }
        for (int i = 0; i < 12; i++) {
            x.row(0, 0, 0, 0, 0);
        }
        check.due("rows are not counted", x.clear(), 0);
        LinearReach clashed = Build.clashing();
        clashed.run(0, 1);
        check.due("a name without numbers is", clashed.clear(), 1);
    }
}
