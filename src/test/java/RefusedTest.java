import java.util.List;
import java.util.function.Supplier;

/** Terms: "then nothing changes". Each refused call is made on a new object, which then answers as one without it. */
public final class RefusedTest {
    private static final Due due = new Due();

    public static void main(String[] args) {
        unknown();
        outside();
        state();
        room();
        questionsChangeNothing();
        due.end();
    }

    private static void refused(int want, String call, int... arguments) {
        String name = Told.text(call, arguments);
        CurveTies touched = Piece.small();
        due.is(name, Told.call(touched, call, arguments), want);
        due.same("after " + name, Piece.answers(touched), Piece.answers(Piece.small()));
        due.same("after " + name + " and more", answersToMore(touched), answersToMore(Piece.small()));
    }

    /** What shows in the rows only when more is told: widths, stems, heights, BARS. */
    private static String answersToMore(CurveTies ties) {
        StringBuilder all = new StringBuilder();
        int[][] notes = {{0, 150, 0, 0}, {1, 200, 8, 1}, {2, 300, 0, 1}};
        all.append("line ").append(ties.line(300)).append('\n');
        for (int[] note : notes) {
            all.append("note ").append(Told.call(ties, "note", note)).append('\n');
        }
        all.append("mark ").append(ties.mark(1, 20, 15, 2, 2)).append('\n');
        all.append("wedge ").append(ties.wedge(0, 110, 140, -30, 20)).append('\n');
        all.append("again ").append(ties.again()).append('\n');
        all.append("slur ").append(ties.slur(1, 5)).append('\n');
        all.append("tie ").append(ties.tie(3, 6)).append('\n');
        all.append(Piece.answers(ties));
        all.append("clear ").append(ties.clear()).append('\n');
        return all.toString();
    }

    private static void unknown() {
        int unknown = CurveTies.UNKNOWN;
        for (int line : new int[] {-1, 2}) {
            refused(unknown, "note", line, 70, 0, 0);
            refused(unknown, "mark", line, 0, -200, 200, 200);
            refused(unknown, "wedge", line, 0, 100, 0, 40);
        }
        for (int note : new int[] {-1, 5}) {
            refused(unknown, "tie", note, 1);
            refused(unknown, "tie", 0, note);
            refused(unknown, "slur", note, 1);
            refused(unknown, "slur", 0, note);
        }
    }

    private static void outside() {
        int outside = CurveTies.OUTSIDE;
        refused(outside, "line", 99);
        refused(outside, "line", 1001);
        refused(outside, "note", 0, -1, 0, 0);
        refused(outside, "note", 0, 151, 0, 0);
        refused(outside, "note", 0, 40, 101, 0);
        refused(outside, "note", 0, 40, -101, 0);
        refused(outside, "mark", 0, 151, 0, 5, 5);
        refused(outside, "mark", 0, 100, 201, 5, 5);
        refused(outside, "mark", 0, 100, 0, 201, 200);
        refused(outside, "mark", 0, 100, 0, 200, 0);
        refused(outside, "wedge", 0, 100, 151, 0, 40);
        refused(outside, "wedge", 0, 100, 100, 0, 40);
        refused(outside, "wedge", 0, 100, 150, -201, 40);
        refused(outside, "wedge", 0, 100, 150, 0, 41);
    }

    private static void state() {
        int state = CurveTies.STATE;
        refused(state, "tie", 0, 2);
        refused(state, "tie", 1, 0);
        refused(state, "tie", 3, 2);
        refused(state, "slur", 2, 2);
        refused(state, "slur", 2, 1);
        refused(state, "slur", 4, 0);
    }

    private static CurveTies fullOf(String call, int times, int... arguments) {
        CurveTies ties = Piece.small();
        for (int i = 0; i < times; i++) {
            Told.call(ties, call, arguments);
        }
        return ties;
    }

    private static void room() {
        refusedFull(() -> fullOf("line", 2, 400), 4, "line", 400);
        refusedFull(() -> fullOf("note", 55, 0, 0, 0, 1), 60, "note", 0, 30, 0, 0);
        refusedFull(() -> fullOf("mark", 38, 0, 0, 100, 1, 1), 40, "mark", 0, 20, -40, 100, 100);
        refusedFull(() -> fullOf("wedge", 11, 0, 0, 2, 100, 1), 12, "wedge", 0, 20, 100, 0, 40);
        refusedFull(() -> fullOf("tie", 36, 0, 1), 40, "tie", 0, 1);
        refusedFull(() -> fullOf("slur", 36, 3, 4), 40, "slur", 0, 1);
    }

    private static void refusedFull(Supplier<CurveTies> begin, int most, String call, int... arguments) {
        int what = List.of("line", "note", "mark", "wedge").indexOf(call);
        CurveTies touched = begin.get();
        CurveTies other = begin.get();
        due.is(call + ": as many as there may be", touched.count(what < 0 ? 4 : what), most);
        due.is("one more " + call, Told.call(touched, call, arguments), CurveTies.ROOM);
        due.is("and once more", Told.call(touched, call, arguments), CurveTies.ROOM);
        due.is(call + ": still as many", touched.count(what < 0 ? 4 : what), most);
        due.same("after too many of " + call, answersOfFour(touched), answersOfFour(other));
        due.same("after too many of " + call + " and more", newCurves(touched, what), newCurves(other, what));
        due.is("again after too many of " + call, touched.again(), other.again());
        due.same("again after too many of " + call, answersOfFour(touched), answersOfFour(other));
        due.is("clear after too many of " + call, touched.clear(), other.clear());
    }

    /** What NOTES there are shows only in new CURVES: the first NOTES and, if there is no more room for NOTES, the last one. */
    private static String newCurves(CurveTies ties, int what) {
        StringBuilder all = new StringBuilder();
        for (int[] pair : new int[][] {{0, 1}, {0, 2}, {2, 3}, {1, 4}, {what == 1 ? 59 : 0, 1}}) {
            int curve = ties.slur(pair[0], pair[1]);
            all.append("slur ").append(curve).append('\n');
            all.append("side ").append(ties.curve(curve, 2)).append('\n');
            for (int i = 0; i <= 3; i++) {
                all.append("x ").append(ties.point(curve, 0, i, 0)).append('\n');
                all.append("y ").append(ties.point(curve, 0, i, 1)).append('\n');
            }
        }
        return all.toString();
    }

    /** A piece with 40 CURVES has too many answers for 512 calls: the first four and the last one tell enough. */
    private static String answersOfFour(CurveTies ties) {
        StringBuilder all = new StringBuilder();
        int last = ties.count(4) - 1;
        for (int what = 0; what <= 5; what++) {
            all.append("count ").append(ties.count(what)).append('\n');
        }
        for (int curve : new int[] {0, 1, 2, 3, last}) {
            for (int what = 0; what <= 5; what++) {
                all.append("part ").append(ties.part(curve, 0, what)).append('\n');
            }
            for (int i = 0; i <= 3; i++) {
                all.append("point ").append(ties.point(curve, 0, i, 1)).append('\n');
            }
            all.append("bars ").append(ties.candidate(curve, 0, 0, 0)).append('\n');
            all.append("hulls ").append(ties.candidate(curve, 0, 0, 1)).append('\n');
        }
        all.append("no more ").append(ties.curve(last + 1, 0)).append('\n');
        return all.toString();
    }

    /** Questions, refused or not, leave all as it was: above all those about candidates that are not chosen. */
    private static void questionsChangeNothing() {
        String untouched = Piece.answers(Piece.small());
        String[] questions = {"curve", "part", "point", "candidate", "along", "within", "count"};
        int[][] arguments = {{3, 1, 2, 1}, {1, 0, 17, 0}, {1, 0, 17, 1}, {3, 1, 23, 2}, {3, 1, 24, 0}, {3, 2, 0, 0},
            {4, 0, 0, 0}, {-1, -1, -1, -1}, {0, 0, 65, 0}, {2, 1, 3, 1}};
        for (String question : questions) {
            CurveTies touched = Piece.small();
            for (int[] asked : arguments) {
                Told.call(touched, question, asked);
            }
            due.same("after " + question, Piece.answers(touched), untouched);
        }
        CurveTies asked = Piece.small();
        due.same("asked twice: the first time", Piece.answers(asked), untouched);
        due.same("asked twice: the second time", Piece.answers(asked), untouched);
    }
}
