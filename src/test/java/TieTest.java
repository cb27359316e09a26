/** Promise 6: tie. */
public final class TieTest {
    private static final Due due = new Due();

    public static void main(String[] args) {
        wrongTies();
        reach();
        room();
        sides();
        chords();
        ends();
        twoParts();
        due.end();
    }

    private static void wrongTies() {
        CurveTies ties = new CurveTies();
        for (int i = 0; i < 3; i++) {
            ties.line(200);
        }
        ties.note(0, 50, 5, true);
        ties.note(0, 90, 6, true);
        ties.note(0, 50, 5, true);
        ties.note(2, 50, 5, true);
        for (int note : new int[] {Integer.MIN_VALUE, -1, 4, Integer.MAX_VALUE}) {
            due.is("tie(" + note + ", 0)", ties.tie(note, 0), CurveTies.UNKNOWN);
            due.is("tie(0, " + note + ")", ties.tie(0, note), CurveTies.UNKNOWN);
        }
        due.is("unlike heights", ties.tie(0, 1), CurveTies.STATE);
        due.is("a note and itself", ties.tie(0, 0), CurveTies.STATE);
        due.is("two at one place", ties.tie(0, 2), CurveTies.STATE);
        due.is("over a whole line", ties.tie(0, 3), CurveTies.STATE);
        due.is("backwards over lines", ties.tie(3, 0), CurveTies.STATE);
        due.is("no curve", ties.count(4), 0);
    }

    private static int tieAnswer(int lineA, int xA, int lineB, int xB) {
        CurveTies ties = new CurveTies();
        ties.line(150);
        ties.line(200);
        ties.note(lineA, xA, 0, true);
        ties.note(lineB, xB, 0, true);
        return ties.tie(0, 1);
    }

    private static void reach() {
        due.is("11 on one line", tieAnswer(0, 20, 0, 31), CurveTies.STATE);
        due.is("12 on one line", tieAnswer(0, 20, 0, 32), 0);
        due.is("12 back on one line", tieAnswer(0, 32, 0, 20), CurveTies.STATE);
        due.is("11 before the end", tieAnswer(0, 139, 1, 12), CurveTies.STATE);
        due.is("11 behind the beginning", tieAnswer(0, 138, 1, 11), CurveTies.STATE);
        due.is("12 and 12", tieAnswer(0, 138, 1, 12), 0);
        due.is("backwards over the end", tieAnswer(1, 20, 0, 100), CurveTies.STATE);
    }

    private static void room() {
        CurveTies ties = new CurveTies();
        ties.line(1000);
        ties.line(1000);
        ties.note(0, 100, 0, true);
        ties.note(1, 100, 0, true);
        ties.note(1, 5, 0, true);
        for (int i = 0; i < 40; i++) {
            due.is("curve " + i, i % 2 == 0 ? ties.tie(0, 1) : ties.slur(0, 1), i);
        }
        due.is("curve 40, a tie", ties.tie(0, 1), CurveTies.ROOM);
        due.is("curve 40, a slur", ties.slur(0, 1), CurveTies.ROOM);
        due.is("curve 40, too near", ties.tie(0, 2), CurveTies.STATE);
        due.is("curve 40, unknown", ties.tie(0, 3), CurveTies.UNKNOWN);
        due.is("count(4)", ties.count(4), 40);
        for (int curve = 0; curve < 40; curve++) {
            due.is("line of part 0 of " + curve, ties.part(curve, 0, 0), 0);
            due.is("line of part 1 of " + curve, ties.part(curve, 1, 0), 1);
        }
        // each slur is around all that was told before it, on its side
        due.is("all 39 before the last slur are within it", ties.candidate(39, 1, 7, 1), 39);
    }

    private static int tieSide(boolean up, int... chord) {
        CurveTies ties = new CurveTies();
        ties.line(200);
        ties.line(200);
        ties.note(0, 50, 10, up);
        ties.note(0, 90, 10, !up);
        for (int y : chord) {
            ties.note(0, 50, y, true);
        }
        // none of these is of the first one's CHORD
        ties.note(0, 51, 90, true);
        ties.note(0, 90, 90, true);
        ties.note(1, 50, -90, true);
        ties.note(1, 50, -80, true);
        ties.tie(0, 1);
        return ties.curve(0, 2);
    }

    private static void sides() {
        due.is("stem up", tieSide(true), -1);
        due.is("stem down", tieSide(false), 1);
        due.is("one above", tieSide(false, 20), -1);
        due.is("one below", tieSide(true, 0), 1);
        due.is("one above, one below, stem up", tieSide(true, 0, 20), -1);
        due.is("one above, one below, stem down", tieSide(false, 0, 20), 1);
        due.is("two above, one below", tieSide(false, 0, 20, 30), -1);
        due.is("one above, two below", tieSide(true, 0, -1, 30), 1);
        due.is("one at its height", tieSide(true, 10), -1);
        due.is("one just above", tieSide(false, 11), -1);
        due.is("one just below", tieSide(true, 9), 1);
    }

    /** Only NOTES of one LINE at one x are a CHORD, in whatever order they came. */
    private static void chords() {
        CurveTies ties = new CurveTies();
        ties.line(200);
        ties.line(200);
        ties.note(0, 50, 0, true);
        ties.note(0, 50, 10, true);
        ties.note(0, 90, 10, true);
        ties.note(1, 50, 20, true);
        ties.note(1, 50, 30, true);
        due.is("tie", ties.tie(1, 2), 0);
        due.is("one below, told first; two on another line", ties.curve(0, 2), 1);
        ties.note(0, 51, 20, true);
        ties.note(0, 90, 20, true);
        due.is("tie", ties.tie(1, 2), 1);
        due.is("others on the line, at another x", ties.curve(1, 2), 1);
    }

    private static void ends() {
        CurveTies ties = new CurveTies();
        ties.line(1000);
        ties.note(0, 20, 10, true);
        ties.note(0, 60, 10, true);
        ties.note(0, 32, 10, false);
        ties.note(0, 44, 10, true);
        ties.note(0, 500, 10, false);
        due.is("tie below", ties.tie(0, 1), 0);
        due.points("tie below", ties, 0, 0, 23, 8, 31, 0, 49, 0, 57, 8);
        due.is("narrow tie above", ties.tie(2, 3), 1);
        due.points("narrow tie above", ties, 1, 0, 35, 12, 36, 16, 40, 16, 41, 12);
        due.is("wide tie above", ties.tie(2, 4), 2);
        due.is("its ARCH is 20 at most", ties.part(2, 0, 4), 20);
        due.is("a tie has 8 candidates", ties.part(2, 0, 5), 8);
        due.is("it is a tie", ties.curve(2, 4), 1);
    }

    private static void twoParts() {
        CurveTies ties = new CurveTies();
        ties.line(150);
        ties.line(200);
        ties.note(0, 100, 10, false);
        ties.note(1, 40, 10, true);
        due.is("over the end", ties.tie(0, 1), 0);
        due.is("its parts", ties.curve(0, 3), 2);
        due.points("part 0", ties, 0, 0, 103, 12, 114, 21, 139, 21, 150, 12);
        due.points("part 1", ties, 0, 1, 0, 12, 9, 20, 28, 20, 37, 12);
        due.is("ARCH of part 0", ties.part(0, 0, 4), 9);
        due.is("ARCH of part 1", ties.part(0, 1, 4), 8);
    }
}
