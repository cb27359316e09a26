/** Chapter 2: which two NOTES a CURVE may join ("all this: STATE"). */
public final class JoinTest {
    private static final int STATE = CurveTies.STATE;
    private static final int[] WIDTHS = {100, 150, 120, 1000};
    private static final Due due = new Due();

    public static void main(String[] args) {
        allPlaces();
        oneLine();
        overTheEnd();
        heights();
        namedTwice();
        due.end();
    }

    private static int joined(String call, int lineA, int xA, int yA, int lineB, int xB, int yB) {
        CurveTies ties = new CurveTies();
        for (int width : WIDTHS) {
            ties.line(width);
        }
        ties.note(lineA, xA, yA, true);
        ties.note(lineB, xB, yB, true);
        return (int) Told.call(ties, call, 0, 1);
    }

    private static void both(String name, int want, int lineA, int xA, int lineB, int xB) {
        due.is("tie " + name, joined("tie", lineA, xA, 7, lineB, xB, 7), want);
        due.is("slur " + name, joined("slur", lineA, xA, 7, lineB, xB, -7), want);
    }

    /** Every pair of LINES, with each NOTE near both ends and in the middle. */
    private static void allPlaces() {
        for (int lineA = 0; lineA < 4; lineA++) {
            for (int lineB = 0; lineB < 4; lineB++) {
                for (int xA : places(lineA)) {
                    for (int xB : places(lineB)) {
                        boolean may = lineA == lineB ? xB >= xA + 12
                                : lineB == lineA + 1 && xA <= WIDTHS[lineA] - 12 && xB >= 12;
                        String name = "from " + xA + " on " + lineA + " to " + xB + " on " + lineB;
                        both(name, may ? 0 : STATE, lineA, xA, lineB, xB);
                    }
                }
            }
        }
    }

    private static int[] places(int line) {
        int width = WIDTHS[line];
        return new int[] {0, 11, 12, 13, 50, 61, 62, width - 13, width - 12, width - 11, width};
    }

    private static void oneLine() {
        both("12 back", STATE, 0, 12, 0, 0);
        both("at one x", STATE, 0, 40, 0, 40);
        both("1 more", STATE, 0, 40, 0, 41);
        both("11 more", STATE, 0, 40, 0, 51);
        both("12 more", 0, 0, 40, 0, 52);
        both("12 more, from the beginning", 0, 0, 0, 0, 12);
        both("12 more, to the end", 0, 0, 88, 0, 100);
        both("11 more, to the end", STATE, 0, 89, 0, 100);
        both("all of the line", 0, 3, 0, 3, 1000);
    }

    /** The end is that of the first one's LINE; x may be less on the next LINE. */
    private static void overTheEnd() {
        both("12 before the end of 100", 0, 0, 88, 1, 12);
        both("11 before the end of 100", STATE, 0, 89, 1, 12);
        both("12 before the end of 150", 0, 1, 138, 2, 12);
        both("11 before the end of 150, more before that of 100", STATE, 1, 139, 2, 50);
        both("12 before the end of 120", 0, 2, 108, 3, 12);
        both("11 before the end of 120", STATE, 2, 109, 3, 12);
        both("at x 11", STATE, 0, 50, 1, 11);
        both("at x 0", STATE, 0, 50, 1, 0);
        both("at the end of the next line", 0, 0, 0, 1, 150);
        both("back to the line before", STATE, 1, 50, 0, 80);
        both("over one line", STATE, 0, 50, 2, 50);
        both("over two lines", STATE, 0, 50, 3, 50);
        both("back over one line", STATE, 3, 50, 1, 50);
    }

    /** A TIE has one height, a SLUR any two. */
    private static void heights() {
        int[][] unlike = {{0, 1}, {1, 0}, {0, -1}, {-100, 100}, {100, -100}, {99, 100}, {-100, -99}, {5, -5}};
        for (int[] y : unlike) {
            String name = " from " + y[0] + " to " + y[1];
            due.is("tie" + name, joined("tie", 0, 20, y[0], 0, 60, y[1]), STATE);
            due.is("tie over the end" + name, joined("tie", 0, 20, y[0], 1, 60, y[1]), STATE);
            due.is("slur" + name, joined("slur", 0, 20, y[0], 0, 60, y[1]), 0);
            due.is("slur over the end" + name, joined("slur", 0, 20, y[0], 1, 60, y[1]), 0);
        }
        for (int y : new int[] {-100, -1, 0, 1, 100}) {
            due.is("tie at " + y, joined("tie", 0, 20, y, 0, 60, y), 0);
            due.is("slur at " + y, joined("slur", 0, 20, y, 0, 60, y), 0);
        }
        due.is("tie of unlike heights, too near", joined("tie", 0, 20, 0, 0, 31, 1), STATE);
    }

    private static void namedTwice() {
        CurveTies ties = Piece.small();
        for (int note = 0; note < 5; note++) {
            due.is("tie of " + note + " to itself", ties.tie(note, note), STATE);
            due.is("slur of " + note + " to itself", ties.slur(note, note), STATE);
        }
        due.is("the same tie twice", ties.tie(0, 1), 4);
        due.is("the same slur twice", ties.slur(0, 2), 5);
    }
}
