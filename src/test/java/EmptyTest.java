/** Promise 1, and all the others with nothing there yet. */
public final class EmptyTest {
    private static final int[] NUMBERS = {Integer.MIN_VALUE, -1, 0, 1, 3, 4, 60, Integer.MAX_VALUE};
    private static final Due due = new Due();

    public static void main(String[] args) {
        noLines(new CurveTies(), "new");
        CurveTies cleared = Piece.small();
        due.is("clear", cleared.clear(), 4);
        noLines(cleared, "cleared");
        linesAlone();
        oneNote();
        noCurves();
        due.end();
    }

    private static void counts(String name, CurveTies ties, int... want) {
        for (int what = 0; what <= 5; what++) {
            due.is(name + ": count(" + what + ")", ties.count(what), want[what]);
        }
    }

    private static void noLines(CurveTies ties, String name) {
        counts(name, ties, 0, 0, 0, 0, 0, 0);
        for (int line : NUMBERS) {
            due.is(name + ": note on line " + line, ties.note(line, 0, 0, true), CurveTies.UNKNOWN);
            due.is(name + ": mark on line " + line, ties.mark(line, 0, 0, 1, 1), CurveTies.UNKNOWN);
            due.is(name + ": wedge on line " + line, ties.wedge(line, 0, 1, 0, 1), CurveTies.UNKNOWN);
        }
        noNotesNorCurves(ties, name);
        counts(name + ", asked", ties, 0, 0, 0, 0, 0, 0);
        due.is(name + ": again", ties.again(), 0);
        due.is(name + ": clear", ties.clear(), 0);
        due.is(name + ": the first line", ties.line(100), 0);
    }

    private static void noNotesNorCurves(CurveTies ties, String name) {
        for (int number : NUMBERS) {
            due.is(name + ": tie(" + number + ", 0)", ties.tie(number, 0), CurveTies.UNKNOWN);
            due.is(name + ": slur(0, " + number + ")", ties.slur(0, number), CurveTies.UNKNOWN);
        }
        nothingOfCurves(ties, name, 0);
    }

    /** No CURVE from the first one on that there is not. */
    private static void nothingOfCurves(CurveTies ties, String name, int first) {
        for (int number : NUMBERS) {
            int curve = number >= 0 && number < first ? first : number;
            due.is(name + ": curve " + curve, ties.curve(curve, 0), CurveTies.UNKNOWN);
            due.is(name + ": part of " + curve, ties.part(curve, 0, 0), CurveTies.UNKNOWN);
            due.is(name + ": point of " + curve, ties.point(curve, 0, 0, 0), CurveTies.UNKNOWN);
            due.is(name + ": candidate of " + curve, ties.candidate(curve, 0, 0, 0), CurveTies.UNKNOWN);
            due.is(name + ": along of " + curve, ties.along(curve, 0, 0, 0), Told.ALONG_UNKNOWN);
            due.is(name + ": within of " + curve, ties.within(curve, 0, curve, 0), CurveTies.UNKNOWN);
        }
    }

    /** A LINE is there from the call on that tells it, and none before that. */
    private static void linesAlone() {
        CurveTies ties = new CurveTies();
        for (int line = 0; line < 4; line++) {
            due.is("note on a line not told yet", ties.note(line, 0, 0, true), CurveTies.UNKNOWN);
            due.is("mark on a line not told yet", ties.mark(line, 0, 0, 1, 1), CurveTies.UNKNOWN);
            due.is("wedge on a line not told yet", ties.wedge(line, 0, 1, 0, 1), CurveTies.UNKNOWN);
            due.is("line", ties.line(100 + 300 * line), line);
            counts("lines alone", ties, line + 1, 0, line, line, 0, 0);
            due.is("mark on it", ties.mark(line, 100, 0, 1, 1), line + 1);
            due.is("wedge on it", ties.wedge(line, 100, 0, 0, 1), line + 1);
        }
        noNotesNorCurves(ties, "lines alone");
        due.is("lines alone: again", ties.again(), 0);
        due.is("lines alone: clear", ties.clear(), 0);
    }

    private static void oneNote() {
        CurveTies ties = new CurveTies();
        ties.line(100);
        due.is("the first note", ties.note(0, 0, 0, true), 0);
        due.is("tie to one that is not yet", ties.tie(0, 1), CurveTies.UNKNOWN);
        due.is("slur from one that is not yet", ties.slur(1, 0), CurveTies.UNKNOWN);
        due.is("tie of one note", ties.tie(0, 0), CurveTies.STATE);
        due.is("slur of one note", ties.slur(0, 0), CurveTies.STATE);
        counts("one note", ties, 1, 1, 0, 0, 0, 0);
    }

    private static void noCurves() {
        CurveTies ties = new CurveTies();
        ties.line(100);
        ties.note(0, 0, 0, true);
        ties.note(0, 50, 0, true);
        nothingOfCurves(ties, "no curves", 0);
        due.is("no curves: again", ties.again(), 0);
        due.is("the first curve", ties.slur(0, 1), 0);
        due.is("it is there", ties.curve(0, 1), 1);
        due.is("its only part", ties.part(0, 0, 0), 0);
        due.is("no more parts", ties.part(0, 1, 0), CurveTies.UNKNOWN);
        due.is("no bars to meet", ties.candidate(0, 0, 23, 0), 0);
        due.is("no parts to meet", ties.candidate(0, 0, 23, 1), 0);
        nothingOfCurves(ties, "one curve", 1);
        due.is("again, with nothing in the way", ties.again(), 0);
        due.is("clear tells the one curve", ties.clear(), 1);
    }
}
