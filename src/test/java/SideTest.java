/** Chapter 2: SIDE, where a NOTE just counts and just no longer counts. */
public final class SideTest {
    private static final Due due = new Due();

    public static void main(String[] args) {
        slurEverywhere(1, 40, 1, 90);
        slurEverywhere(1, 40, 2, 30);
        slurOfItsTwo();
        slurOfChords();
        tieCounts();
        tieHeights();
        tieOthers();
        tieOfLaterNotes();
        due.end();
    }

    /** One NOTE with its stem down, at every place of every LINE: it counts between the two alone. */
    private static void slurEverywhere(int lineA, int xA, int lineB, int xB) {
        for (int line = 0; line < 4; line++) {
            for (int x = 0; x <= 100; x++) {
                CurveTies ties = new CurveTies();
                for (int i = 0; i < 4; i++) {
                    ties.line(100);
                }
                ties.note(line, x, -30, false);
                ties.note(lineA, xA, 0, true);
                ties.note(lineB, xB, 5, true);
                ties.slur(1, 2);
                boolean behindFirst = line > lineA || line == lineA && x > xA;
                boolean beforeSecond = line < lineB || line == lineB && x < xB;
                String name = "slur to line " + lineB + ", stem down on " + line + " at " + x;
                due.is(name, ties.curve(0, 2), behindFirst && beforeSecond ? 1 : -1);
            }
        }
    }

    private static void slurOfItsTwo() {
        for (int stems = 0; stems < 4; stems++) {
            CurveTies ties = new CurveTies();
            ties.line(100);
            ties.note(0, 20, 0, stems % 2 == 1);
            ties.note(0, 60, 0, stems / 2 == 1);
            ties.slur(0, 1);
            due.is("slur of stems " + stems, ties.curve(0, 2), stems == 3 ? -1 : 1);
        }
    }

    /** The other NOTES of the two CHORDS are not between. */
    private static void slurOfChords() {
        CurveTies ties = new CurveTies();
        ties.line(100);
        ties.note(0, 20, 0, true);
        ties.note(0, 60, 0, true);
        ties.note(0, 20, 10, false);
        ties.note(0, 20, -10, false);
        ties.note(0, 60, 10, false);
        ties.note(0, 60, -10, false);
        ties.slur(0, 1);
        due.is("stems down in both chords", ties.curve(0, 2), -1);
        ties.slur(2, 1);
        due.is("from one of them", ties.curve(1, 2), 1);
        ties.slur(0, 5);
        due.is("to one of them", ties.curve(2, 2), 1);
    }

    private static int tieSide(boolean up, int y, int above, int below) {
        CurveTies ties = new CurveTies();
        ties.line(100);
        ties.note(0, 20, y, up);
        ties.note(0, 60, y, !up);
        for (int i = 1; i <= above; i++) {
            ties.note(0, 20, y + i, !up);
        }
        for (int i = 1; i <= below; i++) {
            ties.note(0, 20, y - i, !up);
        }
        ties.tie(0, 1);
        return ties.curve(0, 2);
    }

    private static void tieCounts() {
        for (int above = 0; above <= 4; above++) {
            for (int below = 0; below <= 4; below++) {
                int up = above < below ? 1 : -1;
                int down = above > below ? -1 : 1;
                String name = "tie with " + above + " above and " + below + " below, stem ";
                due.is(name + "up", tieSide(true, 0, above, below), up);
                due.is(name + "down", tieSide(false, 0, above, below), down);
            }
        }
    }

    private static void tieHeights() {
        due.is("the lowest note, one above", tieSide(false, -100, 1, 0), -1);
        due.is("the highest note, one below", tieSide(true, 100, 0, 1), 1);
        for (int y : new int[] {-100, 0, 100}) {
            CurveTies ties = new CurveTies();
            ties.line(100);
            ties.note(0, 20, y, true);
            ties.note(0, 60, y, true);
            ties.note(0, 20, y, false);
            ties.note(0, 20, y, false);
            ties.tie(0, 1);
            due.is("notes at its own height are neither above nor below", ties.curve(0, 2), -1);
            ties.tie(2, 1);
            due.is("the stem is the first one's, down", ties.curve(1, 2), 1);
        }
    }

    /** Only the first one's CHORD counts: one LINE, one x. */
    private static void tieOthers() {
        int[][] others = {{0, 19}, {0, 21}, {0, 60}, {0, 40}, {1, 20}, {1, 60}};
        for (int[] other : others) {
            CurveTies ties = new CurveTies();
            ties.line(100);
            ties.line(100);
            ties.note(0, 20, 0, true);
            ties.note(0, 60, 0, true);
            ties.note(other[0], other[1], -10, false);
            ties.tie(0, 1);
            due.is("tie, another note on " + other[0] + " at " + other[1], ties.curve(0, 2), -1);
        }
    }

    /** All NOTES count, those that came before the two, too. */
    private static void tieOfLaterNotes() {
        CurveTies ties = new CurveTies();
        ties.line(100);
        ties.note(0, 20, -10, true);
        ties.note(0, 20, 0, true);
        ties.note(0, 60, 0, true);
        ties.tie(1, 2);
        due.is("one below, that came first", ties.curve(0, 2), 1);
        ties.note(0, 20, 10, true);
        ties.tie(1, 2);
        due.is("and one above, that came last", ties.curve(1, 2), -1);
        due.is("the first tie's SIDE stays", ties.curve(0, 2), 1);
    }
}
