/** Chapters 2 and 3: ENDS, THE ARCH, POINTS, and where "quotients are cut off toward 0". */
public final class ShapeTest {
    private static final Due due = new Due();

    public static void main(String[] args) {
        slurArches();
        tieArches();
        partArches();
        heightQuarters();
        widthQuarters();
        slurEnds();
        farthestEnds();
        partsAtTheEnds();
        alongUneven();
        badness();
        due.end();
    }

    private static CurveTies curve(String call, int x, int y, int xx, int yy, boolean up) {
        CurveTies ties = new CurveTies();
        ties.line(1000);
        ties.note(0, x, y, up);
        ties.note(0, xx, yy, up);
        due.is(call, Told.call(ties, call, 0, 1), 0);
        return ties;
    }

    /** 4 and d / 8, but 20 at most. */
    private static void slurArches() {
        int[][] rows = {{12, 5}, {15, 5}, {16, 6}, {17, 6}, {23, 6}, {24, 7}, {119, 18}, {120, 19}, {127, 19}, {128, 20},
            {135, 20}, {136, 20}, {144, 20}, {999, 20}, {1000, 20}};
        for (int[] row : rows) {
            due.is("ARCH of a slur of d " + row[0], curve("slur", 0, 0, row[0], 0, true).part(0, 0, 4), row[1]);
        }
    }

    /** d is 6 less than from NOTE to NOTE. */
    private static void tieArches() {
        int[][] rows = {{12, 4}, {13, 4}, {14, 5}, {21, 5}, {22, 6}, {133, 19}, {134, 20}, {142, 20}, {1000, 20}};
        for (int[] row : rows) {
            due.is("ARCH of a tie over " + row[0], curve("tie", 0, 0, row[0], 0, true).part(0, 0, 4), row[1]);
        }
    }

    /** Each PART has its own d. */
    private static void partArches() {
        CurveTies ties = new CurveTies();
        ties.line(1000);
        ties.line(1000);
        ties.note(0, 988, 0, true);
        ties.note(1, 12, 0, true);
        ties.note(0, 872, 0, true);
        ties.note(1, 127, 0, true);
        ties.tie(0, 1);
        ties.slur(0, 1);
        ties.slur(2, 3);
        ties.tie(2, 3);
        int[][] want = {{5, 5}, {5, 5}, {20, 19}, {19, 19}};
        for (int curve = 0; curve < 4; curve++) {
            due.is("ARCH of part 0 of " + curve, ties.part(curve, 0, 4), want[curve][0]);
            due.is("ARCH of part 1 of " + curve, ties.part(curve, 1, 4), want[curve][1]);
        }
    }

    /** With d 40 the ARCH is 9: POINT 1 is at 4 and a quarter and 9, POINT 2 a quarter back from the second END. */
    private static void heightQuarters() {
        int[][] rows = {{-9, -2}, {-8, -2}, {-7, -1}, {-5, -1}, {-4, -1}, {-3, 0}, {-2, 0}, {-1, 0}, {0, 0},
            {1, 0}, {2, 0}, {3, 0}, {4, 1}, {5, 1}, {7, 1}, {8, 2}, {9, 2}};
        for (int[] row : rows) {
            int rise = row[0];
            int quarter = row[1];
            String name = "rise " + rise;
            CurveTies above = curve("slur", 100, 0, 140, rise, false);
            due.points(name + " above", above, 0, 0, 100, 4, 110, 13 + quarter, 130, rise + 13 - quarter, 140, rise + 4);
            CurveTies below = curve("slur", 100, 0, 140, rise, true);
            due.points(name + " below", below, 0, 0, 100, -4, 110, quarter - 13, 130, rise - 13 - quarter, 140, rise - 4);
        }
    }

    private static void widthQuarters() {
        int[][] rows = {{12, 3}, {13, 3}, {14, 3}, {15, 3}, {16, 4}, {17, 4}, {19, 4}, {20, 5}, {999, 249}, {1000, 250}};
        for (int[] row : rows) {
            CurveTies ties = curve("slur", 0, 0, row[0], 0, true);
            due.is("POINT 1 of d " + row[0], ties.point(0, 0, 1, 0), row[1]);
            due.is("POINT 2 of d " + row[0], ties.point(0, 0, 2, 0), row[0] - row[1]);
        }
        due.points("the narrowest tie", curve("tie", 0, 0, 12, 0, true), 0, 0, 3, -2, 4, -6, 8, -6, 9, -2);
        due.points("the widest tie", curve("tie", 0, 100, 1000, 100, false), 0, 0, 3, 102, 251, 122, 749, 122, 997, 102);
    }

    /** 24 more only where the stem goes to the SIDE. */
    private static void slurEnds() {
        int[][] want = {{4, 4}, {28, 4}, {4, 28}, {-4, -4}};
        for (int stems = 0; stems < 4; stems++) {
            CurveTies ties = new CurveTies();
            ties.line(100);
            ties.note(0, 20, 0, stems % 2 == 1);
            ties.note(0, 60, 0, stems / 2 == 1);
            ties.slur(0, 1);
            due.is("first END, stems " + stems, ties.point(0, 0, 0, 1), want[stems][0]);
            due.is("second END, stems " + stems, ties.point(0, 0, 3, 1), want[stems][1]);
        }
        CurveTies ties = new CurveTies();
        ties.line(100);
        ties.note(0, 20, 0, true);
        ties.note(0, 60, 0, true);
        ties.note(0, 40, -90, false);
        ties.slur(0, 1);
        due.is("first END, both stems up, but one down between", ties.point(0, 0, 0, 1), 28);
        due.is("second END, both stems up, but one down between", ties.point(0, 0, 3, 1), 28);
        // a TIE's ENDS do not care for stems
        ties.tie(0, 1);
        due.is("a tie's first END", ties.point(1, 0, 0, 1), -2);
        due.is("a tie's second END", ties.point(1, 0, 3, 1), -2);
    }

    /** The highest and the lowest POINTS that there are, in the last candidate. */
    private static void farthestEnds() {
        CurveTies ties = new CurveTies();
        ties.line(1000);
        ties.note(0, 0, 100, true);
        ties.note(0, 1000, 100, true);
        ties.note(0, 500, 100, false);
        ties.mark(0, 500, 100, 1, 100);
        ties.slur(0, 1);
        due.is("it collides", ties.part(0, 0, 3), 1);
        due.points("highest", ties, 0, 0, 0, 136, 250, 184, 750, 184, 1000, 136);
        due.is("along the highest", ties.along(0, 0, 32, 1), 32768L * (136 + 3 * 184 + 3 * 184 + 136));
        due.is("along to the end", ties.along(0, 0, 64, 0), 262144000L);
        due.is("along to the last height", ties.along(0, 0, 64, 1), 262144L * 136);
        ties.clear();
        ties.line(1000);
        ties.note(0, 0, -100, true);
        ties.note(0, 1000, -100, true);
        ties.mark(0, 500, -200, 1, 200);
        ties.slur(0, 1);
        due.points("lowest", ties, 0, 0, 0, -112, 250, -160, 750, -160, 1000, -112);
        due.is("along the lowest", ties.along(0, 0, 32, 1), -32768L * (112 + 3 * 160 + 3 * 160 + 112));
        due.is("along from the first height", ties.along(0, 0, 0, 1), -262144L * 112);
    }

    /** PART 0 goes to the WIDTH of its own LINE at the first END's height, PART 1 from 0 at the second END's. */
    private static void partsAtTheEnds() {
        CurveTies ties = new CurveTies();
        ties.line(100);
        ties.line(1000);
        ties.note(0, 88, 100, true);
        ties.note(1, 12, -100, false);
        ties.note(0, 0, 5, true);
        ties.note(1, 1000, 5, true);
        ties.note(0, 88, 5, true);
        ties.note(1, 12, 5, true);
        due.is("slur", ties.slur(0, 1), 0);
        due.points("narrowest part 0", ties, 0, 0, 88, 128, 91, 133, 97, 133, 100, 128);
        due.points("narrowest part 1", ties, 0, 1, 0, -96, 3, -91, 9, -91, 12, -96);
        due.is("slur", ties.slur(2, 3), 1);
        due.is("tie", ties.tie(4, 5), 2);
        due.points("widest part 0", ties, 1, 0, 0, 33, 25, 49, 75, 49, 100, 33);
        due.points("widest part 1", ties, 1, 1, 0, 33, 250, 53, 750, 53, 1000, 33);
        due.points("part 0 of a tie", ties, 2, 0, 91, 3, 93, -2, 98, -2, 100, 3);
        due.points("part 1 of a tie", ties, 2, 1, 0, 3, 2, -2, 7, -2, 9, 3);
    }

    /** POINTS at the heights 4, 14, 17, 9: all unlike, so that none stands for another one. */
    private static void alongUneven() {
        CurveTies ties = curve("slur", 100, 0, 140, 5, false);
        due.points("uneven", ties, 0, 0, 100, 4, 110, 14, 130, 17, 140, 9);
        long[][] want = {{100, 4}, {110, 14}, {130, 17}, {140, 9}};
        for (int axis = 0; axis <= 1; axis++) {
            due.is("along at 0", ties.along(0, 0, 0, axis), 262144 * want[0][axis]);
            due.is("along at 1", ties.along(0, 0, 1, axis), 250047 * want[0][axis] + 11907 * want[1][axis]
                    + 189 * want[2][axis] + want[3][axis]);
            due.is("along at 63", ties.along(0, 0, 63, axis), want[0][axis] + 189 * want[1][axis]
                    + 11907 * want[2][axis] + 250047 * want[3][axis]);
            due.is("along at 64", ties.along(0, 0, 64, axis), 262144 * want[3][axis]);
        }
    }

    /** BADNESS does not depend on THE ARCH nor on the SIDE. */
    private static void badness() {
        int[] want = {0, 16, 64, 144, 256, 400, 576, 784, 48, 64, 112, 192, 304, 448, 624, 832,
            192, 208, 256, 336, 448, 592, 768, 976};
        for (int d : new int[] {12, 1000}) {
            for (boolean up : new boolean[] {true, false}) {
                CurveTies slur = curve("slur", 0, -10, d, 10, up);
                for (int k = 0; k < 24; k++) {
                    due.is("BADNESS of a slur's " + k, slur.candidate(0, 0, k, 2), want[k]);
                }
                CurveTies tie = curve("tie", 0, 10, d, 10, up);
                for (int k = 0; k < 8; k++) {
                    due.is("BADNESS of a tie's " + k, tie.candidate(0, 0, k, 2), want[k]);
                }
            }
        }
    }
}
