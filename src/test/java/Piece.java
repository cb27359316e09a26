/** Objects that a test begins with, and all that one answers. */
final class Piece {
    private Piece() {
    }

    /**
     * Something of everything: 2 LINES, 5 NOTES, 2 MARKS, a WEDGE, 4 CURVES with 6 PARTS; CURVE 0 is a TIE of
     * one PART, CURVE 1 a SLUR of one PART that COLLIDES, CURVE 2 a TIE of two PARTS, CURVE 3 a SLUR of two PARTS,
     * with those of CURVE 2 WITHIN them. The last MARK is told after them, so that CURVE 0 would be another one if
     * something chose it anew.
     */
    static CurveTies small() {
        CurveTies ties = new CurveTies();
        tellSmall(ties);
        return ties;
    }

    static void tellSmall(CurveTies ties) {
        ties.line(150);
        ties.line(200);
        ties.note(0, 20, 0, true);
        ties.note(0, 60, 0, true);
        ties.note(0, 100, 8, false);
        ties.note(1, 40, 8, true);
        ties.note(1, 90, 10, false);
        ties.mark(0, 50, 5, 9, 40);
        ties.wedge(1, 60, 80, 5, 10);
        ties.tie(0, 1);
        ties.slur(0, 2);
        ties.tie(2, 3);
        ties.slur(1, 4);
        ties.mark(0, 40, -10, 2, 2);
    }

    /** As many of all as there may be, in 156 calls: all 40 CURVES go over the end of a LINE. */
    static CurveTies full() {
        CurveTies ties = new CurveTies();
        tellFull(ties);
        return ties;
    }

    static void tellFull(CurveTies ties) {
        for (int width : new int[] {100, 200, 300, 1000}) {
            ties.line(width);
        }
        // NOTES 4 j to 4 j + 3 have one height, each on a LINE of its own
        for (int i = 0; i < 60; i++) {
            ties.note(i % 4, 12 + i, i / 4, i % 3 != 0);
        }
        for (int i = 0; i < 40; i++) {
            ties.mark(i % 4, 2 * i, 5 * i - 100, i + 1, i + 1);
        }
        for (int i = 0; i < 12; i++) {
            ties.wedge(i % 4, 5 * i, 5 * i + 7, 10 * i - 60, i + 1);
        }
        for (int i = 0; i < 40; i++) {
            int first = i / 3 * 4 + i % 3;
            if (i % 2 == 0) {
                ties.tie(first, first + 1);
            } else {
                ties.slur(first, first + 1);
            }
        }
    }

    /** All that a small piece answers, one answer a line; of candidates the first one and the last one. */
    static String answers(CurveTies ties) {
        StringBuilder all = new StringBuilder();
        for (int what = 0; what <= 5; what++) {
            add(all, ties.count(what), "count", what);
        }
        int curves = ties.count(4);
        for (int curve = 0; curve < curves; curve++) {
            for (int what = 0; what <= 4; what++) {
                add(all, ties.curve(curve, what), "curve", curve, what);
            }
            int parts = ties.curve(curve, 3);
            for (int part = 0; part < parts; part++) {
                addPart(all, ties, curve, part);
            }
        }
        for (int i = 0; i < curves * curves; i++) {
            add(all, ties.within(i / curves, 0, i % curves, 0), "within", i / curves, 0, i % curves, 0);
        }
        return all.toString();
    }

    private static void addPart(StringBuilder all, CurveTies ties, int curve, int part) {
        for (int what = 0; what <= 5; what++) {
            add(all, ties.part(curve, part, what), "part", curve, part, what);
        }
        for (int i = 0; i <= 3; i++) {
            add(all, ties.point(curve, part, i, 0), "point", curve, part, i, 0);
            add(all, ties.point(curve, part, i, 1), "point", curve, part, i, 1);
        }
        int last = ties.part(curve, part, 5) - 1;
        for (int what = 0; what <= 2; what++) {
            add(all, ties.candidate(curve, part, 0, what), "candidate", curve, part, 0, what);
            add(all, ties.candidate(curve, part, last, what), "candidate", curve, part, last, what);
        }
        add(all, ties.along(curve, part, 21, 1), "along", curve, part, 21, 1);
    }

    private static void add(StringBuilder all, long answer, String call, int... arguments) {
        all.append(Told.text(call, arguments)).append(" answered ").append(answer).append('\n');
    }
}
