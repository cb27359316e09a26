/** As many LINES, NOTES, MARKS, WEDGES and CURVES as there may be, and one more; an object's 512 calls. */
public final class FullTest {
    private static final Due due = new Due();

    public static void main(String[] args) {
        numbersAsTheyCome();
        oneMoreOfEach();
        tiesAndSlursTogether();
        allMetAtOnce();
        lastCall();
        fullAgainAfterClear();
        objectsApart();
        due.end();
    }

    private static void numbersAsTheyCome() {
        CurveTies ties = new CurveTies();
        for (int i = 0; i < 4; i++) {
            due.is("line " + i, ties.line(1000), i);
        }
        for (int i = 0; i < 60; i++) {
            due.is("note " + i, ties.note(i % 4, 10 * i, 0, true), i);
        }
        for (int i = 1; i <= 40; i++) {
            due.is("mark " + i, ties.mark(i % 4, i, 100, 1, 1), i);
            if (i <= 12) {
                due.is("wedge " + i, ties.wedge(i % 4, 0, i, 100, 1), i);
            }
        }
        for (int i = 0; i < 40; i++) {
            due.is("curve " + i, i % 2 == 0 ? ties.tie(i, i + 4) : ties.slur(i, i + 4), i);
        }
        counts(ties, 4, 60, 40, 12, 40, 0);
    }

    private static void counts(CurveTies ties, int... want) {
        for (int what = 0; what <= 5; what++) {
            due.is("count(" + what + ")", ties.count(what), want[what]);
        }
    }

    /** Each kind has room of its own: what is full of one kind takes all others. */
    private static void oneMoreOfEach() {
        String[] calls = {"line", "note", "mark", "wedge", "slur"};
        int[][] arguments = {{100}, {0, 50, 0, 1}, {0, 0, 0, 1, 1}, {0, 0, 1, 0, 1}, {0, 1}};
        int[] told = {2, 5, 2, 1, 4};
        int[] most = {4, 60, 40, 12, 40};
        for (int full = 0; full < calls.length; full++) {
            CurveTies ties = Piece.small();
            for (int i = told[full]; i < most[full]; i++) {
                // NOTES and CURVES, like LINES, are numbered from 0, BARS are counted
                int want = calls[full].equals("mark") || calls[full].equals("wedge") ? i + 1 : i;
                due.is(calls[full] + " " + i, Told.call(ties, calls[full], arguments[full]), want);
            }
            due.is(calls[full] + ", one more", Told.call(ties, calls[full], arguments[full]), CurveTies.ROOM);
            for (int other = 0; other < calls.length; other++) {
                boolean taken = Told.call(ties, calls[other], arguments[other]) >= 0;
                due.is(calls[other] + " when there is no room for a " + calls[full], taken ? 1 : 0, other == full ? 0 : 1);
            }
        }
    }

    private static void tiesAndSlursTogether() {
        for (int ofTies : new int[] {0, 1, 20, 39, 40}) {
            CurveTies ties = new CurveTies();
            ties.line(100);
            ties.note(0, 10, 0, true);
            ties.note(0, 50, 0, true);
            for (int i = 0; i < 40; i++) {
                due.is("curve " + i, i < ofTies ? ties.tie(0, 1) : ties.slur(0, 1), i);
            }
            due.is("one more tie after " + ofTies, ties.tie(0, 1), CurveTies.ROOM);
            due.is("one more slur after " + ofTies, ties.slur(0, 1), CurveTies.ROOM);
            due.is("curves", ties.count(4), 40);
            due.is("the last one is there", ties.curve(39, 4), ofTies == 40 ? 1 : 0);
            due.is("none behind it", ties.curve(40, 4), CurveTies.UNKNOWN);
        }
    }

    /** 52 BARS and 39 PARTS WITHIN, all met. */
    private static void allMetAtOnce() {
        CurveTies ties = new CurveTies();
        ties.line(200);
        ties.note(0, 20, 0, false);
        ties.note(0, 120, 0, false);
        for (int i = 0; i < 40; i++) {
            ties.mark(0, 60, 0, 5, 100);
        }
        for (int i = 0; i < 12; i++) {
            ties.wedge(0, 100, 60, 10, 20);
        }
        for (int i = 0; i < 40; i++) {
            due.is("slur " + i, ties.slur(0, 1), i);
            due.is("the bars that it meets", ties.candidate(i, 0, 23, 0), 52);
            due.is("the parts that it meets", ties.candidate(i, 0, 23, 1), i);
        }
        due.is("all collide", ties.count(5), 40);
        due.is("again", ties.again(), 0);
        due.is("clear", ties.clear(), 40);
    }

    /** The 512th call is answered like any other one. */
    private static void lastCall() {
        CurveTies ties = Piece.full();
        int calls = 156;
        for (; calls < 510; calls++) {
            int curve = calls % 40;
            int line = calls / 40 % 2 + curve % 3;
            due.is("call " + calls, ties.part(curve, calls / 40 % 2, 0), line);
        }
        due.is("call 511", ties.curve(39, 0), 52);
        due.is("call 512", ties.clear(), 40);
    }

    private static void fullAgainAfterClear() {
        CurveTies ties = Piece.full();
        due.is("clear", ties.clear(), 40);
        counts(ties, 0, 0, 0, 0, 0, 0);
        Piece.tellFull(ties);
        CurveTies other = Piece.full();
        for (int what = 0; what <= 5; what++) {
            due.is("full after clear: count(" + what + ")", ties.count(what), other.count(what));
        }
        for (int curve = 0; curve < 40; curve++) {
            due.is("full after clear: candidate of " + curve, ties.part(curve, 1, 1), other.part(curve, 1, 1));
            due.is("full after clear: height of " + curve, ties.point(curve, 0, 1, 1), other.point(curve, 0, 1, 1));
        }
        due.is("clear", ties.clear(), 40);
        due.is("clear once more", ties.clear(), 0);
        Piece.tellSmall(ties);
        due.same("small after full", Piece.answers(ties), Piece.answers(Piece.small()));
    }

    /** Two objects share nothing. */
    private static void objectsApart() {
        CurveTies one = new CurveTies();
        CurveTies two = new CurveTies();
        due.is("line of one", one.line(100), 0);
        due.is("no line of two", two.note(0, 0, 0, true), CurveTies.UNKNOWN);
        Piece.tellSmall(two);
        due.is("no note of one", one.slur(0, 1), CurveTies.UNKNOWN);
        due.is("clear one", one.clear(), 0);
        due.same("two stays", Piece.answers(two), Piece.answers(Piece.small()));
    }
}
