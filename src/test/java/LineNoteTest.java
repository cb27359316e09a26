/** Promises 1 to 3: a new object, line, note. */
public final class LineNoteTest {
    private static final int MIN = Integer.MIN_VALUE, MAX = Integer.MAX_VALUE;
    private static final Due due = new Due();

    public static void main(String[] args) {
        newObject();
        lines();
        notes();
        due.end();
    }

    private static void newObject() {
        CurveTies ties = new CurveTies();
        for (int what = 0; what <= 5; what++) {
            due.is("new: count(" + what + ")", ties.count(what), 0);
        }
        due.is("new: note", ties.note(0, 0, 0, true), CurveTies.UNKNOWN);
        due.is("new: again", ties.again(), 0);
        due.is("new: clear", ties.clear(), 0);
    }

    private static void lines() {
        CurveTies ties = new CurveTies();
        for (int width : new int[] {MIN, -100, 0, 99, 1001, MAX}) {
            due.is("line(" + width + ")", ties.line(width), CurveTies.OUTSIDE);
        }
        due.is("line(100)", ties.line(100), 0);
        due.is("line(1000)", ties.line(1000), 1);
        due.is("line(500)", ties.line(500), 2);
        due.is("line(500)", ties.line(500), 3);
        due.is("fifth line", ties.line(500), CurveTies.ROOM);
        due.is("fifth line, too wide", ties.line(1001), CurveTies.OUTSIDE);
        due.is("count(0)", ties.count(0), 4);
    }

    private static void notes() {
        CurveTies ties = new CurveTies();
        ties.line(100);
        ties.line(200);
        for (int line : new int[] {MIN, -1, 2, 3, MAX}) {
            due.is("note on line " + line, ties.note(line, -1, 101, true), CurveTies.UNKNOWN);
        }
        for (int x : new int[] {MIN, -1, 101, MAX}) {
            due.is("note at x " + x, ties.note(0, x, 0, true), CurveTies.OUTSIDE);
        }
        for (int y : new int[] {MIN, -101, 101, MAX}) {
            due.is("note at y " + y, ties.note(0, 0, y, true), CurveTies.OUTSIDE);
        }
        due.is("no note yet", ties.count(1), 0);
        due.is("note(0, 0, -100)", ties.note(0, 0, -100, true), 0);
        due.is("note(0, 100, 100)", ties.note(0, 100, 100, false), 1);
        due.is("note(1, 200, 0)", ties.note(1, 200, 0, false), 2);
        due.is("the same note again", ties.note(1, 200, 0, false), 3);
        for (int i = 4; i < 60; i++) {
            due.is("note " + i, ties.note(0, i, i, i % 2 == 0), i);
        }
        due.is("note 60", ties.note(0, 0, 0, true), CurveTies.ROOM);
        due.is("note 60 outside", ties.note(0, 101, 0, true), CurveTies.OUTSIDE);
        due.is("note 60 unknown", ties.note(2, 0, 0, true), CurveTies.UNKNOWN);
        due.is("count(1)", ties.count(1), 60);
    }
}
