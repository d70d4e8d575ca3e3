import java.util.function.Consumer;
import java.util.function.Supplier;
import java.util.function.ToIntFunction;

/** Of 'Terms' which refusal comes first, what a refused call changes, and what begins anew. */
final class AnswerSentences {
    private static final String TERMS = "Terms";
    private final Check check;
    private final Looks looks;

    AnswerSentences(Check check) {
        this.check = check;
        this.looks = new Looks(check);
    }

    void addTo(Sentences s) {
        s.hold(TERMS, "Calls answer, the first of these that fits:", this::firstThatFits);
        s.hold(TERMS, "OUTSIDE (no such name, row, step, place, KIND", this::noSuch);
        s.hold(TERMS, "a number out of its bounds), STATE, ROOM (as they name them)", this::outOfBounds);
        s.hold(TERMS, "then nothing changes", this::nothingChanges);
        s.hold(TERMS, "name() to clear(), when not refused, begin anew", this::beginAnew);
        s.hold(TERMS, "the SETS are FIRST's, there are no STEPS, no CLASH", this::whatIsAnew);
    }

    /**
     * Eight names, the first with one number; twelve rows, the last of them PRODUCT, IF and COUNT with
     * a = 1. A round takes 2 .. 4 of name 3, for that 4 of name 4, and 1 of name 1.
     */
    private static LinearReach full() {
        LinearReach x = Build.names(2, 2, 0, 1, 0, 1, 0, 4, 1, 4, 0, 1, 0, 1, 0, 1);
        Build.sum(x, 0, 1, 0, 0, 0, 1);
        Build.sum(x, 0, 2, 0, 0, 0, -1, 1);
        for (int row = 2; row < 9; row++) {
            x.row(1, 0, 0, 0, 0);
        }
        x.row(2, 1, 2, 3, 0);
        x.row(8, 1, 0, 0, 9);
        x.row(9, 1, 0, 0, 9);
        return x;
    }

    private void firstThatFits() {
        LinearReach x = full();
        check.due("name: ROOM", x.name(0, 0), Check.ROOM);
        check.due("name: OUTSIDE before ROOM", x.name(1, 0), Check.OUTSIDE);
        check.due("name: OUTSIDE before ROOM", x.name(0, 32), Check.OUTSIDE);
        check.due("leave: STATE", x.leave(0, 2), Check.STATE);
        check.due("leave: OUTSIDE, though there is one number", x.leave(0, 32), Check.OUTSIDE);
        check.due("row: ROOM", x.row(5, 0, 1, 2, 0), Check.ROOM);
        check.due("row: no KIND before ROOM", x.row(10, 0, 1, 2, 0), Check.OUTSIDE);
        check.due("row: no such name before ROOM", x.row(5, 0, 1, 8, 0), Check.OUTSIDE);
        check.due("row: the same name before ROOM", x.row(5, 0, 1, 1, 0), Check.OUTSIDE);
        check.due("row: RIGHT before ROOM", x.row(5, 0, 1, 2, 1001), Check.OUTSIDE);
        for (int row = 9; row < 12; row++) {
            check.due("factor: STATE", x.factor(row, 1, 1), Check.STATE);
            check.due("factor: its bounds before STATE", x.factor(row, 1, 10), Check.OUTSIDE);
        }
        check.due("factor: no such name before STATE", x.factor(9, 8, 1), Check.OUTSIDE);
        check.due("factor: no such row", x.factor(12, 1, 1), Check.OUTSIDE);
        LinearReach clashed = Build.clashing();
        clashed.run(0, 1);
        check.due("run: CLASH", clashed.run(0, 1), 0);
        check.due("run: OUTSIDE before CLASH", clashed.run(0, 201), Check.OUTSIDE);
        check.due("run: OUTSIDE before CLASH", clashed.run(-1, 1), Check.OUTSIDE);
        check.due("end: NONE", clashed.end(0, true), Check.NONE);
        check.due("end: OUTSIDE", clashed.end(1, true), Check.OUTSIDE);
    }

    private void noSuch() {
        LinearReach x = Build.chain();
        x.run(0, 200);
        int[] noNames = {-1, 3, 7, 8, -1000, Integer.MIN_VALUE, Integer.MAX_VALUE};
        for (int no : noNames) {
            check.due("leave(" + no + ", 0)", x.leave(no, 0), Check.OUTSIDE);
            check.due("factor(0, " + no + ", 0)", x.factor(0, no, 0), Check.OUTSIDE);
            check.due("row(9, " + no + ", 0, 0, 0)", x.row(9, no, 0, 0, 0), Check.OUTSIDE);
            check.due("has(" + no + ", 0)", x.has(no, 0), Check.OUTSIDE);
            check.due("end(" + no + ", false)", x.end(no, false), Check.OUTSIDE);
            check.due("size(" + no + ")", x.size(no), Check.OUTSIDE);
            check.due("factor(" + no + ", 0, 0)", x.factor(no, 0, 0), Check.OUTSIDE);
        }
        int[] noSteps = {-1, 6, 511, 512, Integer.MIN_VALUE, Integer.MAX_VALUE};
        for (int no : noSteps) {
            check.due("step(" + no + ", 0)", x.step(no, 0), Check.OUTSIDE);
            check.due("reason(" + no + ")", x.reason(no), Check.OUTSIDE);
            check.due("part(" + no + ", 0)", x.part(no, 0), Check.OUTSIDE);
            check.due("told(" + no + ", 0)", x.told(no, 0), Check.OUTSIDE);
        }
        int[] noPlaces = {-1, 1, 2, 16, Integer.MIN_VALUE, Integer.MAX_VALUE};
        for (int no : noPlaces) {
            check.due("part(5, " + no + ")", x.part(5, no), Check.OUTSIDE);
            check.due("told(5, " + no + ")", x.told(5, no), Check.OUTSIDE);
        }
        int[] noKinds = {-1, 10, Integer.MIN_VALUE, Integer.MAX_VALUE};
        for (int no : noKinds) {
            check.due("row(" + no + ", 0, 1, 2, 0)", x.row(no, 0, 1, 2, 0), Check.OUTSIDE);
        }
    }

    /** The last number within its bounds, and the first one without, on both sides. */
    private void outOfBounds() {
        LinearReach x = new LinearReach();
        check.due("name(-33, 31)", x.name(-33, 31), Check.OUTSIDE);
        check.due("name(-32, 32)", x.name(-32, 32), Check.OUTSIDE);
        check.due("name(-32, 31)", x.name(-32, 31), 0);
        check.due("leave(0, -33)", x.leave(0, -33), Check.OUTSIDE);
        check.due("leave(0, 32)", x.leave(0, 32), Check.OUTSIDE);
        check.due("leave(0, -32)", x.leave(0, -32), 1);
        check.due("leave(0, 31)", x.leave(0, 31), 1);
        check.due("row, -1001", x.row(0, 0, 0, 0, -1001), Check.OUTSIDE);
        check.due("row, 1001", x.row(0, 0, 0, 0, 1001), Check.OUTSIDE);
        check.due("row, -1000", x.row(0, 0, 0, 0, -1000), 0);
        check.due("row, 1000", x.row(0, 0, 0, 0, 1000), 1);
        check.due("factor(0, 0, -10)", x.factor(0, 0, -10), Check.OUTSIDE);
        check.due("factor(0, 0, 10)", x.factor(0, 0, 10), Check.OUTSIDE);
        check.due("factor(0, 0, -9)", x.factor(0, 0, -9), 0);
        check.due("factor(0, 0, 9)", x.factor(0, 0, 9), -9);
        check.due("factor(0, 0, 0)", x.factor(0, 0, 0), 9);
        check.due("run(0, 0)", x.run(0, 0), Check.OUTSIDE);
        check.due("run(0, 201)", x.run(0, 201), Check.OUTSIDE);
        check.due("run(-1, 1)", x.run(-1, 1), Check.OUTSIDE);
        check.due("run(2, 1)", x.run(2, 1), Check.OUTSIDE);
        check.due("run(0, 1)", x.run(0, 1), 1);
        check.due("run(1, 200)", x.run(1, 200), 1);
        check.due("has(0, 32) is not refused", x.has(0, 32), 0);
    }

    /** On one of two objects that are alike a call is refused; then they are alike still. */
    private void unchanged(String call, Supplier<LinearReach> made, Consumer<LinearReach> refused) {
        LinearReach x = made.get();
        LinearReach due = made.get();
        refused.accept(x);
        looks.same(call, x, due);
    }

    private void refused(String call, int code, Supplier<LinearReach> made, ToIntFunction<LinearReach> asked) {
        unchanged(call, made, x -> check.due(call, asked.applyAsInt(x), code));
    }

    private static LinearReach fullAfterARound() {
        LinearReach x = full();
        x.run(0, 1);
        return x;
    }

    private static LinearReach clashed() {
        LinearReach x = Build.clashing();
        x.run(0, 1);
        return x;
    }

    private static LinearReach chainAfterARound() {
        LinearReach x = Build.chain();
        x.run(0, 1);
        return x;
    }

    private void nothingChanges() {
        refused("name(1, 0)", Check.OUTSIDE, AnswerSentences::chainAfterARound, x -> x.name(1, 0));
        refused("name(-33, 0)", Check.OUTSIDE, AnswerSentences::clashed, x -> x.name(-33, 0));
        refused("name(0, 0)", Check.ROOM, AnswerSentences::fullAfterARound, x -> x.name(0, 0));
        refused("leave(3, 0)", Check.OUTSIDE, AnswerSentences::chainAfterARound, x -> x.leave(3, 0));
        refused("leave(0, 32)", Check.OUTSIDE, AnswerSentences::clashed, x -> x.leave(0, 32));
        refused("leave(0, -33)", Check.OUTSIDE, AnswerSentences::chainAfterARound, x -> x.leave(0, -33));
        refused("leave(0, 2)", Check.STATE, AnswerSentences::fullAfterARound, x -> x.leave(0, 2));
        refused("row(10, 0, 1, 2, 0)", Check.OUTSIDE, AnswerSentences::chainAfterARound, x -> x.row(10, 0, 1, 2, 0));
        refused("row(2, 0, 1, 1, 0)", Check.OUTSIDE, AnswerSentences::chainAfterARound, x -> x.row(2, 0, 1, 1, 0));
        refused("row(0, 0, 0, 0, 1001)", Check.OUTSIDE, AnswerSentences::clashed, x -> x.row(0, 0, 0, 0, 1001));
        refused("row(0, 0, 0, 0, 0)", Check.ROOM, AnswerSentences::fullAfterARound, x -> x.row(0, 0, 0, 0, 0));
        refused("factor(0, 0, 10)", Check.OUTSIDE, AnswerSentences::chainAfterARound, x -> x.factor(0, 0, 10));
        refused("factor(0, 3, 1)", Check.OUTSIDE, AnswerSentences::chainAfterARound, x -> x.factor(0, 3, 1));
        refused("factor(1, 0, 1)", Check.OUTSIDE, AnswerSentences::clashed, x -> x.factor(1, 0, 1));
        refused("factor(9, 4, 1)", Check.STATE, AnswerSentences::fullAfterARound, x -> x.factor(9, 4, 1));
        refused("factor(10, 1, 1)", Check.STATE, AnswerSentences::fullAfterARound, x -> x.factor(10, 1, 1));
        refused("run(2, 1)", Check.OUTSIDE, AnswerSentences::chainAfterARound, x -> x.run(2, 1));
        refused("run(0, 201)", Check.OUTSIDE, AnswerSentences::chainAfterARound, x -> x.run(0, 201));
        refused("run(0, 0)", Check.OUTSIDE, AnswerSentences::fullAfterARound, x -> x.run(0, 0));
    }

    /** Whether it was run before makes no difference after such a call. */
    private void anew(String call, Supplier<LinearReach> made, Consumer<LinearReach> asked) {
        LinearReach x = made.get();
        LinearReach due = made.get();
        x.run(0, 1);
        x.run(1, 2);
        asked.accept(x);
        asked.accept(due);
        looks.same(call, x, due);
    }

    private void beginAnew() {
        anew("name", Build::chain, x -> check.due("name(0, 1)", x.name(0, 1), 3));
        anew("leave", Build::chain, x -> check.due("leave(0, 3)", x.leave(0, 3), 1));
        anew("leave what is taken", Build::chain, x -> check.due("leave(2, 7)", x.leave(2, 7), 1));
        anew("leave what is not there", Build::chain, x -> check.due("leave(0, 8)", x.leave(0, 8), 0));
        anew("row", Build::chain, x -> check.due("row(7, 0, 1, 0, 0)", x.row(7, 0, 1, 0, 0), 3));
        anew("factor", Build::chain, x -> check.due("factor(0, 0, 2)", x.factor(0, 0, 2), 1));
        anew("the same factor", Build::chain, x -> check.due("factor(0, 0, 1)", x.factor(0, 0, 1), 1));
        anew("clear", Build::chain, x -> check.due("clear()", x.clear(), 3));
        anew("name after a clash", Build::clashing, x -> check.due("name(0, 1)", x.name(0, 1), 1));
        anew("leave after a clash", Build::clashing, x -> check.due("leave(0, 3)", x.leave(0, 3), 1));
        anew("row after a clash", Build::clashing, x -> check.due("row(0, 0, 0, 0, 0)", x.row(0, 0, 0, 0, 0), 1));
        anew("factor after a clash", Build::clashing, x -> check.due("factor(0, 0, 0)", x.factor(0, 0, 0), 1));
        anew("clear after a clash", Build::clashing, x -> check.due("clear()", x.clear(), 1));
        unchanged("looking begins nothing anew", AnswerSentences::chainAfterARound, AnswerSentences::look);
        unchanged("looking at a clash", AnswerSentences::clashed, AnswerSentences::look);
    }

    private static void look(LinearReach x) {
        x.clash();
        x.has(0, 0);
        x.end(0, true);
        x.size(0);
        x.steps();
        x.step(0, 0);
        x.reason(0);
        x.part(0, 0);
        x.told(0, 0);
        x.plans();
    }

    private void whatIsAnew() {
        LinearReach x = Build.clashing();
        x.leave(0, 2);
        x.run(0, 1);
        check.due("before: size(0)", x.size(0), 0);
        check.due("before: steps()", x.steps(), 3);
        check.due("before: clash()", x.clash(), 0);
        x.name(0, 0);
        looks.left("FIRST's", x, 0, 0, 1, 3);
        check.due("no STEPS: steps()", x.steps(), 0);
        check.due("no STEPS: step(0, 0)", x.step(0, 0), Check.OUTSIDE);
        check.due("no STEPS: reason(0)", x.reason(0), Check.OUTSIDE);
        check.due("no CLASH", x.clash(), Check.NONE);
        check.due("rounds are done again", x.run(0, 1), 0);
        looks.step("the ROUND is 1 again", x, 0, 0, 0, 0, 1);
    }
}
