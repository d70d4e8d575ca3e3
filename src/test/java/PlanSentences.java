/** Promise 17: plans. */
final class PlanSentences {
    private final Check check;

    PlanSentences(Check check) {
        this.check = check;
    }

    void addTo(Sentences s) {
        s.hold("Promise 17", "How many PLANS there are", this::howManyPlans);
        s.hold("Promise 17", "(without names one, if all rows HOLD, else 0)", this::withoutNames);
        s.hold("Promise 17", "NONE: the SETS' sizes times one another are above 4000", this::above4000);
    }

    private void howManyPlans() {
        LinearReach x = Build.names(0, 9);
        check.due("ten", x.plans(), 10);
        Build.sum(x, 0, 0, 1);
        check.due("one, before a run", x.plans(), 1);
        x.run(0, 200);
        check.due("one, after it", x.plans(), 1);
        Build.sum(x, 1, 5, 0);
        check.due("a row about nothing that can't hold", x.plans(), 0);
        LinearReach clashed = Build.alike(8, -32, 31);
        Build.sum(clashed, 0, -1000, 0, 0, 0, 0, 0, 0, 0, 1);
        check.due("too many", clashed.plans(), Check.NONE);
        clashed.run(0, 1);
        check.due("after a CLASH 64 times 64 .. times 0", clashed.plans(), 0);
        LinearReach gap = Build.names(0, 4, 0, 4);
        gap.leave(0, 2);
        Build.sum(gap, 1, 0, 1, -1);
        check.due("a gap has no plan", gap.plans(), 4);
        check.due("looking again", gap.plans(), 4);
    }

    private void withoutNames() {
        LinearReach x = new LinearReach();
        check.due("no rows", x.plans(), 1);
        int[][] rows = {{0, 0, 1}, {0, -1, 0}, {0, 1, 1}, {0, 1000, 1}, {0, -1000, 0},
            {1, 0, 1}, {1, 1, 0}, {1, -1, 0}};
        for (int[] row : rows) {
            x.clear();
            x.row(row[0], 0, 0, 0, row[1]);
            check.due("kind " + row[0] + ", right " + row[1], x.plans(), row[2]);
            x.row(1, 0, 0, 0, 0);
            check.due("and one that holds", x.plans(), row[2]);
            x.row(0, 0, 0, 0, -1);
            check.due("and one that does not", x.plans(), 0);
        }
        x.clear();
        check.due("cleared", x.plans(), 1);
    }

    private void above4000() {
        LinearReach x = Build.names(-32, 17, -20, 19, 0, 1);
        check.due("50 times 40 times 2 is 4000", x.plans(), 4000);
        LinearReach y = Build.names(-32, 25, 1, 23, 1, 3);
        check.due("58 times 23 times 3 is 4002", y.plans(), Check.NONE);
        y.leave(0, 1);
        check.due("57 times 23 times 3 is 3933", y.plans(), 3933);
        y.name(0, 1);
        check.due("and twice that", y.plans(), Check.NONE);
        Build.sum(y, 0, 0, 0, 0, 0, 1);
        check.due("before a run", y.plans(), Check.NONE);
        y.run(0, 1);
        check.due("the SETS as they are now", y.plans(), 3933);
        check.due("64 eight times", Build.alike(8, -32, 31).plans(), Check.NONE);
        // 2 to the power of 32 is 0 in an int.
        check.due("16 eight times", Build.alike(8, 0, 15).plans(), Check.NONE);
        check.due("63 times 63", Build.alike(2, -31, 31).plans(), 3969);
        check.due("64 times 64", Build.alike(2, -32, 31).plans(), Check.NONE);
        LinearReach wrong = Build.alike(2, -32, 31);
        Build.sum(wrong, 0, -1, 0);
        check.due("NONE, though a row about nothing can't hold", wrong.plans(), Check.NONE);
    }
}
