/** Counts and prints the answers of one test that are not the ones that are due. */
final class Due {
    private int wrong;

    void is(String call, long got, long want) {
        if (got != want) {
            wrong++;
            System.out.println(call + " answered " + got + ", due is " + want);
        }
    }

    /** Texts of one answer a line; the first line that differs is told. */
    void same(String name, String got, String want) {
        if (!got.equals(want)) {
            String[] gotLines = got.split("\n");
            String[] wantLines = want.split("\n");
            int i = 0;
            while (i < gotLines.length && i < wantLines.length && gotLines[i].equals(wantLines[i])) {
                i++;
            }
            wrong++;
            System.out.println(name + ": " + lineOf(gotLines, i) + ", due is " + lineOf(wantLines, i));
        }
    }

    private static String lineOf(String[] lines, int i) {
        return i < lines.length ? lines[i] : "nothing more";
    }

    int wrong() {
        return wrong;
    }

    void end() {
        if (wrong != 0) {
            System.out.println(wrong + " answers are not as due");
            System.exit(1);
        }
    }

    /** The four POINTS of the chosen candidate, as x, y, x, y, .. */
    void points(String name, CurveTies ties, int curve, int part, int... want) {
        for (int i = 0; i < 4; i++) {
            is(name + " POINT " + i + " x", ties.point(curve, part, i, 0), want[2 * i]);
            is(name + " POINT " + i + " y", ties.point(curve, part, i, 1), want[2 * i + 1]);
        }
    }
}
