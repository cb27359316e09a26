/** Promises 4 and 5: mark, wedge; and what of them a HULL MEETS. */
public final class BarTest {
    private static final int MIN = Integer.MIN_VALUE, MAX = Integer.MAX_VALUE;
    private static final Due due = new Due();

    public static void main(String[] args) {
        wrongMarks();
        wrongWedges();
        marksMet();
        wedgesMet();
        hullWithCrossedOrder();
        otherLines();
        due.end();
    }

    private static void wrongMarks() {
        CurveTies ties = new CurveTies();
        ties.line(300);
        due.is("mark on line 1", ties.mark(1, -1, 0, 0, 0), CurveTies.UNKNOWN);
        due.is("mark on line -1", ties.mark(-1, 0, 0, 1, 1), CurveTies.UNKNOWN);
        for (int x : new int[] {MIN, -1, 301, MAX}) {
            due.is("mark at x " + x, ties.mark(0, x, 0, 1, 1), CurveTies.OUTSIDE);
        }
        for (int y : new int[] {MIN, -201, 201, MAX}) {
            due.is("mark at y " + y, ties.mark(0, 0, y, 1, 1), CurveTies.OUTSIDE);
        }
        for (int size : new int[] {MIN, -1, 0, 201, MAX}) {
            due.is("mark of w " + size, ties.mark(0, 0, 0, size, 1), CurveTies.OUTSIDE);
            due.is("mark of l " + size, ties.mark(0, 0, 0, 1, size), CurveTies.OUTSIDE);
        }
        due.is("no mark yet", ties.count(2), 0);
        due.is("mark at the end", ties.mark(0, 300, 200, 200, 200), 1);
        due.is("mark at the beginning", ties.mark(0, 0, -200, 1, 1), 2);
        for (int i = 3; i <= 40; i++) {
            due.is("mark " + i, ties.mark(0, i, 0, 1, 1), i);
        }
        due.is("mark 41", ties.mark(0, 0, 0, 1, 1), CurveTies.ROOM);
        due.is("mark 41 outside", ties.mark(0, 0, 0, 0, 1), CurveTies.OUTSIDE);
        due.is("a wedge beside 40 marks", ties.wedge(0, 0, 1, 0, 1), 1);
    }

    private static void wrongWedges() {
        CurveTies ties = new CurveTies();
        ties.line(300);
        due.is("wedge on line 1", ties.wedge(1, 5, 5, 0, 0), CurveTies.UNKNOWN);
        for (int x : new int[] {MIN, -1, 301, MAX}) {
            due.is("wedge from x " + x, ties.wedge(0, x, 5, 0, 1), CurveTies.OUTSIDE);
            due.is("wedge to x " + x, ties.wedge(0, 5, x, 0, 1), CurveTies.OUTSIDE);
        }
        for (int y : new int[] {MIN, -201, 201, MAX}) {
            due.is("wedge at y " + y, ties.wedge(0, 0, 5, y, 1), CurveTies.OUTSIDE);
        }
        for (int o : new int[] {MIN, -1, 0, 41, MAX}) {
            due.is("wedge of o " + o, ties.wedge(0, 0, 5, 0, o), CurveTies.OUTSIDE);
        }
        due.is("wedge from 5 to 5", ties.wedge(0, 5, 5, 0, 1), CurveTies.OUTSIDE);
        due.is("no wedge yet", ties.count(3), 0);
        due.is("wedge forward", ties.wedge(0, 0, 300, 200, 40), 1);
        due.is("wedge backward", ties.wedge(0, 300, 0, -200, 1), 2);
        for (int i = 3; i <= 12; i++) {
            due.is("wedge " + i, ties.wedge(0, 0, i, 0, 1), i);
        }
        due.is("wedge 13", ties.wedge(0, 0, 5, 0, 1), CurveTies.ROOM);
        due.is("wedge 13 outside", ties.wedge(0, 5, 5, 0, 1), CurveTies.OUTSIDE);
        due.is("a mark beside 12 wedges", ties.mark(0, 0, 0, 1, 1), 1);
    }

    /** A SLUR below whose candidate 0 has the POINTS (100, -4), (120, -18), (160, -18), (180, -4). */
    private static CurveTies slurBelow() {
        CurveTies ties = new CurveTies();
        ties.line(300);
        ties.line(300);
        ties.note(0, 100, 0, true);
        ties.note(0, 180, 0, true);
        ties.slur(0, 1);
        due.points("slur below", ties, 0, 0, 100, -4, 120, -18, 160, -18, 180, -4);
        return ties;
    }

    private static void markMet(String name, int want, int x, int y, int w, int l) {
        CurveTies ties = slurBelow();
        ties.mark(0, x, y, w, l);
        due.is(name, ties.candidate(0, 0, 0, 0), want);
    }

    private static void marksMet() {
        markMet("a corner on a slanting edge", 1, 105, -16, 5, 5);
        markMet("a corner one below that edge", 0, 105, -17, 5, 5);
        markMet("a corner on the other slanting edge", 1, 170, -16, 5, 5);
        markMet("a corner one beside that edge", 0, 171, -16, 5, 5);
        markMet("an edge on the lower edge", 1, 130, -28, 10, 10);
        markMet("an edge one below it", 0, 130, -29, 10, 10);
        markMet("an edge on the upper edge", 1, 130, -4, 10, 10);
        markMet("an edge one above it", 0, 130, -3, 10, 10);
        markMet("a corner on the first END", 1, 90, -4, 10, 4);
        markMet("a side one before the first END", 0, 89, -10, 10, 12);
        markMet("a corner on the second END", 1, 180, -14, 1, 10);
        markMet("a side one behind the second END", 0, 181, -14, 1, 20);
        markMet("wholly inside", 1, 139, -10, 2, 2);
        markMet("wholly around", 1, 50, -100, 200, 200);
        markMet("under the slanting edge, within the frame", 0, 100, -18, 4, 4);
    }

    private static void wedgeMet(String name, int want, int x1, int x2, int y, int o) {
        CurveTies ties = slurBelow();
        ties.wedge(0, x1, x2, y, o);
        due.is(name, ties.candidate(0, 0, 0, 0), want);
    }

    private static void wedgesMet() {
        wedgeMet("a tip on a slanting edge", 1, 110, 90, -11, 1);
        wedgeMet("a tip one before it", 0, 109, 90, -11, 1);
        wedgeMet("an open end on a slanting edge", 1, 90, 110, -12, 1);
        wedgeMet("an open end one under it", 0, 90, 110, -13, 1);
        wedgeMet("open at x2, far from its tip", 1, 20, 110, -51, 40);
        wedgeMet("open at x2 from y - o to y + o", 0, 20, 110, -52, 40);
        wedgeMet("open from below", 1, 90, 140, 4, 8);
        wedgeMet("open from below, one higher", 0, 90, 140, 5, 8);
        wedgeMet("a tip inside", 1, 140, 100, -10, 40);
        wedgeMet("wholly around", 1, 0, 300, -10, 40);
        wedgeMet("a thin one through all", 1, 0, 300, -10, 1);
        // its lower edge goes from (80, -6) over (100, -4), the first END, to (280, 14)
        wedgeMet("a sloping edge on the first END", 1, 280, 80, 14, 20);
        wedgeMet("a sloping edge one above it", 0, 280, 80, 15, 20);
    }

    /** With d = 15 a quarter of x is 3, less than that of the height: POINT 1 lies under the line of the ENDS. */
    private static void hullWithCrossedOrder() {
        for (int below = 0; below <= 1; below++) {
            CurveTies ties = new CurveTies();
            ties.line(100);
            ties.note(0, 0, 100, false);
            ties.note(0, 15, -100, false);
            ties.slur(0, 1);
            due.points("steep slur", ties, 0, 0, 0, 104, 3, 59, 12, -41, 15, -96);
            ties.mark(0, 8, -19 - below, 1, 1);
            due.is("a corner between POINT 1 and POINT 3", ties.candidate(0, 0, 0, 0), 1 - below);
        }
    }

    private static void otherLines() {
        CurveTies ties = slurBelow();
        ties.mark(1, 100, -100, 100, 200);
        ties.wedge(1, 0, 300, -10, 40);
        due.is("bars of another line", ties.candidate(0, 0, 0, 0), 0);
        ties.mark(0, 100, -100, 100, 200);
        ties.wedge(0, 0, 300, -10, 40);
        due.is("a mark and a wedge of the line", ties.candidate(0, 0, 0, 0), 2);
    }
}
