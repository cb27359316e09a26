/** Promises 9 to 13: curve, part, point, candidate, along. */
public final class AnswerTest {
    private static final int[] WRONG = {Integer.MIN_VALUE, -9001, -1, 99, Integer.MAX_VALUE};
    private static final Due due = new Due();

    public static void main(String[] args) {
        CurveTies ties = new CurveTies();
        ties.line(150);
        ties.line(400);
        ties.note(0, 10, 3, true);
        ties.note(0, 100, 10, true);
        ties.note(1, 300, -10, false);
        due.is("slur over the end", ties.slur(1, 2), 0);
        due.is("slur on one line", ties.slur(0, 1), 1);
        curves(ties);
        parts(ties);
        points(ties);
        candidates(ties);
        alongs(ties);
        due.end();
    }

    private static void curves(CurveTies ties) {
        int[][] want = {{1, 2, 1, 2, 0}, {0, 1, -1, 1, 0}};
        for (int curve = 0; curve < 2; curve++) {
            for (int what = 0; what < 5; what++) {
                due.is("curve(" + curve + ", " + what + ")", ties.curve(curve, what), want[curve][what]);
            }
        }
        for (int wrong : WRONG) {
            due.is("curve(" + wrong + ", 9)", ties.curve(wrong, 9), CurveTies.UNKNOWN);
            due.is("curve(0, " + wrong + ")", ties.curve(0, wrong), CurveTies.OUTSIDE);
        }
        due.is("curve(2, 0)", ties.curve(2, 0), CurveTies.UNKNOWN);
        due.is("curve(1, 5)", ties.curve(1, 5), CurveTies.OUTSIDE);
    }

    private static void parts(CurveTies ties) {
        int[][] want = {{0, 0, 0, 0, 10, 24}, {1, 0, 0, 0, 20, 24}};
        for (int part = 0; part < 2; part++) {
            for (int what = 0; what < 6; what++) {
                due.is("part(0, " + part + ", " + what + ")", ties.part(0, part, what), want[part][what]);
            }
        }
        for (int wrong : WRONG) {
            due.is("part(" + wrong + ", 0, 9)", ties.part(wrong, 0, 9), CurveTies.UNKNOWN);
            due.is("part(0, " + wrong + ", 9)", ties.part(0, wrong, 9), CurveTies.UNKNOWN);
            due.is("part(0, 0, " + wrong + ")", ties.part(0, 0, wrong), CurveTies.OUTSIDE);
        }
        due.is("part(0, 2, 0)", ties.part(0, 2, 0), CurveTies.UNKNOWN);
        due.is("part(1, 1, 0)", ties.part(1, 1, 0), CurveTies.UNKNOWN);
        due.is("part(2, 0, 0)", ties.part(2, 0, 0), CurveTies.UNKNOWN);
        due.is("part(1, 0, 6)", ties.part(1, 0, 6), CurveTies.OUTSIDE);
    }

    private static void points(CurveTies ties) {
        due.points("part 0", ties, 0, 0, 100, 38, 112, 48, 138, 48, 150, 38);
        due.points("slur below", ties, 1, 0, 10, -1, 32, -15, 78, -10, 100, 6);
        for (int wrong : WRONG) {
            due.is("point(" + wrong + ", 0, 9, 9)", ties.point(wrong, 0, 9, 9), CurveTies.UNKNOWN);
            due.is("point(0, " + wrong + ", 9, 9)", ties.point(0, wrong, 9, 9), CurveTies.UNKNOWN);
            due.is("point(0, 0, " + wrong + ", 0)", ties.point(0, 0, wrong, 0), CurveTies.OUTSIDE);
            due.is("point(0, 0, 0, " + wrong + ")", ties.point(0, 0, 0, wrong), CurveTies.OUTSIDE);
        }
        due.is("point(1, 1, 0, 0)", ties.point(1, 1, 0, 0), CurveTies.UNKNOWN);
        due.is("point(0, 0, 4, 0)", ties.point(0, 0, 4, 0), CurveTies.OUTSIDE);
        due.is("point(0, 0, 0, 2)", ties.point(0, 0, 0, 2), CurveTies.OUTSIDE);
    }

    private static void candidates(CurveTies ties) {
        int[] want = {0, 16, 64, 144, 256, 400, 576, 784};
        for (int k = 0; k < 24; k++) {
            int e = k / 8;
            due.is("badness of " + k, ties.candidate(1, 0, k, 2), want[k % 8] + 48 * e * e);
        }
        for (int wrong : WRONG) {
            due.is("candidate(" + wrong + ", 0, 99, 9)", ties.candidate(wrong, 0, 99, 9), CurveTies.UNKNOWN);
            due.is("candidate(0, " + wrong + ", 99, 9)", ties.candidate(0, wrong, 99, 9), CurveTies.UNKNOWN);
            due.is("candidate(0, 0, " + wrong + ", 0)", ties.candidate(0, 0, wrong, 0), CurveTies.OUTSIDE);
            due.is("candidate(0, 0, 0, " + wrong + ")", ties.candidate(0, 0, 0, wrong), CurveTies.OUTSIDE);
        }
        due.is("candidate(1, 1, 0, 0)", ties.candidate(1, 1, 0, 0), CurveTies.UNKNOWN);
        due.is("candidate(0, 0, 24, 0)", ties.candidate(0, 0, 24, 0), CurveTies.OUTSIDE);
        due.is("candidate(0, 0, 0, 3)", ties.candidate(0, 0, 0, 3), CurveTies.OUTSIDE);
        CurveTies tie = new CurveTies();
        tie.line(100);
        tie.note(0, 10, 0, true);
        tie.note(0, 50, 0, true);
        tie.tie(0, 1);
        due.is("tie's last candidate", tie.candidate(0, 0, 7, 2), 784);
        due.is("a tie has no candidate 8", tie.candidate(0, 0, 8, 2), CurveTies.OUTSIDE);
    }

    private static void alongs(CurveTies ties) {
        for (int axis = 0; axis < 2; axis++) {
            for (int n = 0; n <= 64; n++) {
                long m = 64 - n;
                long want = m * m * m * ties.point(1, 0, 0, axis);
                want += 3 * m * m * n * ties.point(1, 0, 1, axis);
                want += 3 * m * n * n * ties.point(1, 0, 2, axis);
                want += (long) n * n * n * ties.point(1, 0, 3, axis);
                due.is("along(1, 0, " + n + ", " + axis + ")", ties.along(1, 0, n, axis), want);
            }
        }
        due.is("along's begin", ties.along(0, 0, 0, 0), 262144L * 100);
        due.is("along's end", ties.along(0, 0, 64, 1), 262144L * 38);
        due.is("along's middle", ties.along(0, 0, 32, 1), 32768L * (38 + 3 * 48 + 3 * 48 + 38));
        due.is("along at 16", ties.along(1, 0, 16, 1), 110592L * -1 + 110592L * -15 + 36864L * -10 + 4096L * 6);
        for (int wrong : WRONG) {
            due.is("along(" + wrong + ", 0, 99, 9)", ties.along(wrong, 0, 99, 9), -9000000000001L);
            due.is("along(0, " + wrong + ", 99, 9)", ties.along(0, wrong, 99, 9), -9000000000001L);
            due.is("along(0, 0, " + wrong + ", 0)", ties.along(0, 0, wrong, 0), -9000000000002L);
            due.is("along(0, 0, 0, " + wrong + ")", ties.along(0, 0, 0, wrong), -9000000000002L);
        }
        due.is("along(1, 1, 0, 0)", ties.along(1, 1, 0, 0), -9000000000001L);
        due.is("along(0, 0, 65, 0)", ties.along(0, 0, 65, 0), -9000000000002L);
        due.is("along(0, 0, 0, 2)", ties.along(0, 0, 0, 2), -9000000000002L);
    }
}
