/** Promises 15 and 16: count, clear. */
public final class CountClearTest {
    private static final Due due = new Due();

    public static void main(String[] args) {
        CurveTies ties = new CurveTies();
        due.is("clear at once", ties.clear(), 0);
        for (int round = 0; round < 3; round++) {
            fill(ties);
            for (int what : new int[] {Integer.MIN_VALUE, -1, 6, Integer.MAX_VALUE}) {
                due.is("count(" + what + ")", ties.count(what), CurveTies.OUTSIDE);
            }
            counts(ties, 2, 3, 2, 1, 2, 2);
            due.is("clear", ties.clear(), 2);
            counts(ties, 0, 0, 0, 0, 0, 0);
            due.is("no line", ties.note(0, 0, 0, true), CurveTies.UNKNOWN);
            due.is("no note", ties.tie(0, 1), CurveTies.UNKNOWN);
            due.is("no curve", ties.curve(0, 0), CurveTies.UNKNOWN);
            due.is("no part", ties.part(0, 0, 0), CurveTies.UNKNOWN);
            due.is("again", ties.again(), 0);
        }
        refusedChangesNothing();
        due.end();
    }

    private static void counts(CurveTies ties, int... want) {
        for (int what = 0; what < want.length; what++) {
            due.is("count(" + what + ")", ties.count(what), want[what]);
        }
    }

    /** Both PARTS of the slur over the end COLLIDE, the other slur's does not. */
    private static void fill(CurveTies ties) {
        due.is("line", ties.line(200), 0);
        due.is("line", ties.line(200), 1);
        due.is("note", ties.note(0, 100, 0, false), 0);
        due.is("note", ties.note(1, 100, 0, false), 1);
        due.is("note", ties.note(1, 180, 0, true), 2);
        due.is("mark", ties.mark(0, 150, 0, 5, 100), 1);
        due.is("mark", ties.mark(1, 50, 0, 5, 100), 2);
        due.is("wedge", ties.wedge(1, 50, 70, 0, 5), 1);
        due.is("slur", ties.slur(0, 1), 0);
        due.is("slur", ties.slur(1, 2), 1);
        due.is("its candidate", ties.part(1, 0, 1), 0);
    }

    private static void refusedChangesNothing() {
        CurveTies ties = new CurveTies();
        fill(ties);
        ties.line(5);
        ties.note(0, -1, 0, true);
        ties.mark(0, 0, 0, 0, 0);
        ties.wedge(0, 0, 0, 0, 1);
        ties.slur(0, 0);
        ties.tie(0, 9);
        counts(ties, 2, 3, 2, 1, 2, 2);
        due.is("again", ties.again(), 0);
    }
}
