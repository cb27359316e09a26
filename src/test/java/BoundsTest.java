/** The last number that is still taken and the first one that is not, on both sides, of every number that has bounds. */
public final class BoundsTest {
    private static final int OUTSIDE = CurveTies.OUTSIDE;
    private static final int[] WIDTHS = {100, 250, 999, 1000};
    private static final Due due = new Due();

    public static void main(String[] args) {
        widths();
        for (int line = 0; line < WIDTHS.length; line++) {
            notes(line);
            marks(line);
            wedges(line);
        }
        wedgePlaces();
        names();
        curveAndPart();
        pointAndAlong();
        candidates();
        counts();
        due.end();
    }

    private static CurveTies lines() {
        CurveTies ties = new CurveTies();
        for (int width : WIDTHS) {
            ties.line(width);
        }
        return ties;
    }

    /** Of one call on a new object; what is taken answers the number that the first one gets. */
    private static void taken(int first, String call, int... arguments) {
        due.is(Told.text(call, arguments), Told.call(lines(), call, arguments), first);
    }

    private static void outside(String call, int... arguments) {
        due.is(Told.text(call, arguments), Told.call(lines(), call, arguments), OUTSIDE);
    }

    private static void widths() {
        for (int width = 95; width <= 1005; width++) {
            int want = width < 100 || width > 1000 ? OUTSIDE : 0;
            due.is("line(" + width + ")", new CurveTies().line(width), want);
        }
    }

    /** x goes to the WIDTH of the LINE that is named, whatever the others have. */
    private static void notes(int line) {
        int width = WIDTHS[line];
        outside("note", line, -1, 0, 1);
        taken(0, "note", line, 0, 0, 1);
        taken(0, "note", line, width, 0, 1);
        outside("note", line, width + 1, 0, 1);
        outside("note", line, 50, -101, 0);
        taken(0, "note", line, 50, -100, 0);
        taken(0, "note", line, 50, 100, 0);
        outside("note", line, 50, 101, 0);
    }

    private static void marks(int line) {
        int width = WIDTHS[line];
        outside("mark", line, -1, 0, 5, 5);
        taken(1, "mark", line, 0, 0, 5, 5);
        taken(1, "mark", line, width, 0, 200, 200);
        outside("mark", line, width + 1, 0, 5, 5);
        outside("mark", line, 50, -201, 5, 5);
        taken(1, "mark", line, 50, -200, 5, 5);
        taken(1, "mark", line, 50, 200, 5, 200);
        outside("mark", line, 50, 201, 5, 5);
        outside("mark", line, 50, 0, 0, 5);
        taken(1, "mark", line, 50, 0, 1, 5);
        taken(1, "mark", line, 50, 0, 200, 5);
        outside("mark", line, 50, 0, 201, 5);
        outside("mark", line, 50, 0, 5, 0);
        taken(1, "mark", line, 50, 0, 5, 1);
        taken(1, "mark", line, 50, 0, 5, 200);
        outside("mark", line, 50, 0, 5, 201);
    }

    private static void wedges(int line) {
        int width = WIDTHS[line];
        outside("wedge", line, -1, 50, 0, 5);
        taken(1, "wedge", line, 0, 50, 0, 5);
        taken(1, "wedge", line, width, 50, 0, 5);
        outside("wedge", line, width + 1, 50, 0, 5);
        outside("wedge", line, 50, -1, 0, 5);
        taken(1, "wedge", line, 50, 0, 0, 5);
        taken(1, "wedge", line, 50, width, 0, 5);
        outside("wedge", line, 50, width + 1, 0, 5);
        outside("wedge", line, 0, 50, -201, 5);
        taken(1, "wedge", line, 0, 50, -200, 5);
        taken(1, "wedge", line, 0, 50, 200, 5);
        outside("wedge", line, 0, 50, 201, 5);
        outside("wedge", line, 0, 50, 0, 0);
        taken(1, "wedge", line, 0, 50, 0, 1);
        taken(1, "wedge", line, 0, 50, 0, 40);
        outside("wedge", line, 0, 50, 0, 41);
    }

    /** x1 and x2 may be in any order, but not the same. */
    private static void wedgePlaces() {
        for (int x : new int[] {0, 1, 50, 99, 100}) {
            outside("wedge", 0, x, x, 0, 5);
        }
        taken(1, "wedge", 0, 0, 1, 0, 5);
        taken(1, "wedge", 0, 1, 0, 0, 5);
        taken(1, "wedge", 0, 99, 100, 0, 5);
        taken(1, "wedge", 0, 100, 99, 0, 5);
        taken(1, "wedge", 0, 0, 100, 0, 5);
        taken(1, "wedge", 0, 100, 0, 0, 5);
    }

    private static void small(long want, String call, int... arguments) {
        due.is(Told.text(call, arguments), Told.call(Piece.small(), call, arguments), want);
    }

    private static void smallOutside(String call, int... arguments) {
        small(call.equals("along") ? Told.ALONG_OUTSIDE : OUTSIDE, call, arguments);
    }

    /** The first and the last LINE, NOTE, CURVE and PART, and those beside them. */
    private static void names() {
        int unknown = CurveTies.UNKNOWN;
        small(unknown, "note", -1, 0, 0, 1);
        small(5, "note", 0, 0, 0, 1);
        small(5, "note", 1, 0, 0, 1);
        small(unknown, "note", 2, 0, 0, 1);
        small(unknown, "slur", -1, 1);
        small(unknown, "slur", 0, -1);
        small(4, "slur", 0, 1);
        small(4, "slur", 3, 4);
        small(unknown, "slur", 3, 5);
        small(unknown, "tie", 5, 4);
        small(unknown, "curve", -1, 0);
        small(0, "curve", 0, 0);
        small(1, "curve", 3, 0);
        small(unknown, "curve", 4, 0);
        // CURVE 0 has one PART, CURVE 3 two
        small(unknown, "part", 0, -1, 0);
        small(0, "part", 0, 0, 0);
        small(unknown, "part", 0, 1, 0);
        small(unknown, "part", 3, -1, 0);
        small(1, "part", 3, 1, 0);
        small(unknown, "part", 3, 2, 0);
        small(unknown, "within", 0, 1, 3, 0);
        small(unknown, "within", 3, 0, 0, 1);
        small(1, "within", 2, 1, 3, 1);
        small(unknown, "within", 2, 2, 3, 1);
        small(unknown, "within", 2, 1, 3, 2);
        small(unknown, "within", 4, 0, 3, 1);
        small(unknown, "within", 2, 1, 4, 0);
    }

    private static void curveAndPart() {
        smallOutside("curve", 3, -1);
        small(1, "curve", 3, 0);
        small(0, "curve", 3, 4);
        small(1, "curve", 2, 4);
        smallOutside("curve", 3, 5);
        smallOutside("part", 1, 0, -1);
        small(0, "part", 1, 0, 0);
        small(24, "part", 1, 0, 5);
        small(8, "part", 2, 1, 5);
        smallOutside("part", 1, 0, 6);
    }

    private static void pointAndAlong() {
        smallOutside("point", 0, 0, -1, 0);
        small(23, "point", 0, 0, 0, 0);
        small(57, "point", 0, 0, 3, 0);
        smallOutside("point", 0, 0, 4, 0);
        smallOutside("point", 0, 0, 0, -1);
        small(-2, "point", 0, 0, 0, 1);
        smallOutside("point", 0, 0, 0, 2);
        smallOutside("along", 0, 0, -1, 0);
        small(262144L * 23, "along", 0, 0, 0, 0);
        small(262144L * 57, "along", 0, 0, 64, 0);
        smallOutside("along", 0, 0, 65, 0);
        smallOutside("along", 0, 0, 0, -1);
        small(262144L * -2, "along", 0, 0, 0, 1);
        smallOutside("along", 0, 0, 0, 2);
    }

    /** "also a k that there is not": a TIE has 8, a SLUR 24, in both PARTS. */
    private static void candidates() {
        for (int part = 0; part <= 1; part++) {
            smallOutside("candidate", 2, part, -1, 2);
            small(0, "candidate", 2, part, 0, 2);
            small(784, "candidate", 2, part, 7, 2);
            smallOutside("candidate", 2, part, 8, 2);
            smallOutside("candidate", 2, part, 23, 2);
            smallOutside("candidate", 3, part, -1, 2);
            small(0, "candidate", 3, part, 0, 2);
            small(48, "candidate", 3, part, 8, 2);
            small(976, "candidate", 3, part, 23, 2);
            smallOutside("candidate", 3, part, 24, 2);
        }
        smallOutside("candidate", 1, 0, 0, -1);
        small(1, "candidate", 1, 0, 0, 0);
        smallOutside("candidate", 1, 0, 0, 3);
        smallOutside("candidate", 1, 0, 24, 3);
    }

    private static void counts() {
        int[] want = {2, 5, 2, 1, 4, 1};
        smallOutside("count", -1);
        for (int what = 0; what <= 5; what++) {
            small(want[what], "count", what);
        }
        smallOutside("count", 6);
    }
}
