/** Promise 14: within. */
public final class WithinTest {
    private static final Due due = new Due();

    public static void main(String[] args) {
        wrong();
        places();
        sidesAndLines();
        tieEnds();
        due.end();
    }

    private static CurveTies slurs(boolean up, int... xs) {
        CurveTies ties = new CurveTies();
        ties.line(500);
        ties.line(500);
        for (int i = 0; i < xs.length; i += 2) {
            ties.note(0, xs[i], 0, up);
            ties.note(0, xs[i + 1], 0, up);
            due.is("slur", ties.slur(i, i + 1), i / 2);
        }
        return ties;
    }

    private static void wrong() {
        CurveTies ties = slurs(true, 100, 200, 100, 200);
        for (int number : new int[] {Integer.MIN_VALUE, -1, 2, Integer.MAX_VALUE}) {
            due.is("curve " + number, ties.within(number, 0, 1, 0), CurveTies.UNKNOWN);
            due.is("other " + number, ties.within(0, 0, number, 0), CurveTies.UNKNOWN);
            due.is("p " + number, ties.within(0, number, 1, 0), CurveTies.UNKNOWN);
            due.is("q " + number, ties.within(0, 0, 1, number), CurveTies.UNKNOWN);
        }
        due.is("p 1 of one part", ties.within(0, 1, 1, 0), CurveTies.UNKNOWN);
        due.is("q 1 of one part", ties.within(0, 0, 1, 1), CurveTies.UNKNOWN);
        due.is("itself", ties.within(0, 0, 0, 0), 0);
    }

    private static void places() {
        due.is("the same ends", slurs(true, 100, 200, 100, 200).within(0, 0, 1, 0), 1);
        due.is("told later", slurs(true, 100, 200, 100, 200).within(1, 0, 0, 0), 0);
        due.is("inside", slurs(false, 120, 180, 100, 200).within(0, 0, 1, 0), 1);
        due.is("begins before it", slurs(true, 99, 200, 100, 200).within(0, 0, 1, 0), 0);
        due.is("ends behind it", slurs(true, 100, 201, 100, 200).within(0, 0, 1, 0), 0);
        due.is("around it", slurs(true, 50, 300, 100, 200).within(0, 0, 1, 0), 0);
        due.is("inside, but told later", slurs(true, 100, 200, 120, 180).within(1, 0, 0, 0), 0);
    }

    private static void sidesAndLines() {
        CurveTies ties = slurs(true, 100, 200);
        ties.note(0, 50, 0, false);
        ties.note(0, 250, 0, true);
        ties.note(1, 100, 0, true);
        ties.note(1, 200, 0, true);
        ties.note(1, 480, 0, true);
        due.is("slur above around", ties.slur(2, 3), 1);
        due.is("unlike sides", ties.within(0, 0, 1, 0), 0);
        due.is("slur on the next line", ties.slur(4, 5), 2);
        due.is("unlike lines", ties.within(0, 0, 2, 0), 0);
        due.is("slur over the end", ties.slur(0, 6), 3);
        due.is("within its part 0", ties.within(0, 0, 3, 0), 1);
        due.is("not within its part 1", ties.within(0, 0, 3, 1), 0);
        due.is("within its part 1", ties.within(2, 0, 3, 1), 1);
        due.is("part 0 and part 1 of one", ties.within(3, 0, 3, 1), 0);
        due.is("its part 0 meets that one", ties.candidate(3, 0, 0, 1), 1);
    }

    /** A TIE's ENDS lie 3 inwards, so that it is WITHIN a SLUR of its NOTES, and that not WITHIN it. */
    private static void tieEnds() {
        CurveTies ties = new CurveTies();
        ties.line(500);
        ties.note(0, 100, 0, true);
        ties.note(0, 200, 0, true);
        ties.note(0, 103, 0, true);
        ties.note(0, 197, 0, true);
        due.is("slur", ties.slur(0, 1), 0);
        due.is("tie", ties.tie(0, 1), 1);
        due.is("slur", ties.slur(0, 1), 2);
        due.is("inner slur", ties.slur(2, 3), 3);
        due.is("tie", ties.tie(0, 1), 4);
        due.is("slur within tie", ties.within(0, 0, 1, 0), 0);
        due.is("tie within slur", ties.within(1, 0, 2, 0), 1);
        due.is("tie within inner slur, ends alike", ties.within(1, 0, 3, 0), 1);
        due.is("inner slur within tie, ends alike", ties.within(3, 0, 4, 0), 1);
    }
}
